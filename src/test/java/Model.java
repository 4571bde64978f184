import java.util.ArrayDeque;
import java.util.ArrayList;
import java.util.Comparator;
import java.util.Deque;
import java.util.HashSet;
import java.util.LinkedList;
import java.util.List;
import java.util.Map;
import java.util.NoSuchElementException;
import java.util.Set;
import java.util.TreeMap;

/**
 * The document told a second time, as slowly and as near to its words as may be, and with other
 * means than the program: LISTS, QUICK rows, the stack and PIECES are held as themselves.
 */
final class Model {
    private record Block(int number, int place, int span, int asked) {
        int end() {
            return place + span;
        }
    }

    private record Run(int place, int words) { }

    private record State(List<Run> blocks, int end) { }

    private int form = -1;
    private int words = 0;
    private int given = 0;
    private int looked = 0;
    private int lastEnd = 0;
    private int rooms = 0;
    private final TreeMap<Integer, Block> byPlace = new TreeMap<>();
    private final TreeMap<Integer, Integer> pieces = new TreeMap<>();
    private final TreeMap<Integer, Integer> pageSpans = new TreeMap<>();
    private final List<LinkedList<Run>> lists = new ArrayList<>();
    private final Deque<Block> stack = new ArrayDeque<>();
    private final List<LinkedList<Run>> quick = new ArrayList<>();

    public void open(int form, int words) {
        range(form, 0, 9);
        range(words, 16, 1024);
        this.form = form;
        this.words = words;
        given = 0;
        looked = 0;
        lastEnd = 0;
        byPlace.clear();
        stack.clear();
        pageSpans.clear();
        pieces.clear();
        pieces.put(0, Integer.highestOneBit(words));
        lists.clear();
        for (int l = 0; l < 44; l++) {
            lists.add(new LinkedList<>());
        }
        lists.get(listOf(words)).addFirst(new Run(0, words));
        quick.clear();
        for (int span = 0; span <= 8; span++) {
            quick.add(new LinkedList<>());
        }
    }

    public int give(int n) {
        range(n, 1, 1024);
        needRoom();
        if (byPlace.size() == 200) {
            throw new IndexOutOfBoundsException();
        }
        int span = spanOf(n);
        int place = placeFor(n, span);
        if (place < 0) {
            return -1;
        }
        Block block = new Block(given++, place, span, n);
        byPlace.put(place, block);
        lastEnd = block.end();
        if (form == 8) {
            stack.push(block);
        }
        return block.number();
    }

    private int spanOf(int n) {
        switch (form) {
            case 4: return power(n);
            case 5: return n <= 32 ? power(n) : 32 * ((n + 31) / 32);
            case 6: return 4 * ((n + 3) / 4);
            default: return n;
        }
    }

    private int placeFor(int n, int span) {
        switch (form) {
            case 4: return halves(span);
            case 5: return span <= 32 ? classes(span) : pageRow(span / 32);
            case 6: return bits(span / 4);
            case 7: return levels(n);
            case 8:
                looked++;
                return top() + n <= words ? top() : -1;
            case 9: return quick(n);
            default:
                int[] counted = new int[1];
                int place = fit(form, runs(), n, lastEnd, counted);
                looked += counted[0];
                return place;
        }
    }

    private static int fit(int form, List<Run> runs, int n, int end, int[] counted) {
        List<Run> come = new ArrayList<>();
        if (form == 1) {
            for (Run run : runs) {
                if (run.place() >= end) {
                    come.add(run);
                } else if (run.place() + run.words() > end) {
                    come.add(new Run(end, run.place() + run.words() - end));
                }
            }
            runs.stream().filter(run -> run.place() < end).forEach(come::add);
        } else {
            come.addAll(runs);
        }
        if (form >= 2) {
            counted[0] = come.size();
            Comparator<Run> small = Comparator.comparingInt(Run::words);
            // The sort is stable, so that the first of several stays first.
            come.sort(form == 2 ? small : small.reversed());
        }
        for (Run run : come) {
            counted[0] += form >= 2 ? 0 : 1;
            if (run.words() >= n) {
                return run.place();
            }
        }
        return -1;
    }

    private int halves(int span) {
        looked += pieces.size();
        int best = -1;
        for (Map.Entry<Integer, Integer> piece : pieces.entrySet()) {
            if (piece.getValue() >= span && (best < 0 || piece.getValue() < pieces.get(best))) {
                best = piece.getKey();
            }
        }
        if (best >= 0) {
            while (pieces.get(best) > span) {
                int half = pieces.get(best) / 2;
                pieces.put(best, half);
                pieces.put(best + half, half);
            }
            pieces.remove(best);
        }
        return best;
    }

    private void halvesBack(int place, int size) {
        int whole = Integer.highestOneBit(words);
        int twice = place / (2 * size) * (2 * size);
        int other = twice == place ? place + size : twice;
        if (size < whole && Integer.valueOf(size).equals(pieces.get(other))) {
            pieces.remove(other);
            halvesBack(twice, 2 * size);
        } else {
            pieces.put(place, size);
        }
    }

    private int classes(int span) {
        for (Map.Entry<Integer, Integer> page : pageSpans.entrySet()) {
            if (page.getValue() == span) {
                looked++;
                for (int place = 0; place < 32; place += span) {
                    if (holder(page.getKey() * 32 + place) == null) {
                        return page.getKey() * 32 + place;
                    }
                }
            }
        }
        int place = pageRow(1);
        if (place >= 0) {
            pageSpans.put(place / 32, span);
        }
        return place;
    }

    private int pageRow(int count) {
        for (int first = 0; first + count <= words / 32; first++) {
            boolean free = true;
            for (int p = first; p < first + count; p++) {
                free &= !pageSpans.containsKey(p);
            }
            if (free) {
                for (int p = first; p < first + count; p++) {
                    pageSpans.put(p, 32 * count);
                }
                looked += first + count;
                return 32 * first;
            }
        }
        looked += words / 32;
        return -1;
    }

    private int bits(int g) {
        int step = Math.min(8, power(g));
        for (int grain = 0; grain + g <= words / 4; grain += step) {
            looked++;
            boolean free = true;
            for (int word = 4 * grain; word < 4 * (grain + g); word++) {
                free &= holder(word) == null;
            }
            if (free) {
                return 4 * grain;
            }
        }
        return -1;
    }

    private int levels(int n) {
        for (Run run : lists.get(listOf(n))) {
            looked++;
            if (run.words() >= n) {
                return cut(run, n);
            }
        }
        for (int l = listOf(n) + 1; l < 44; l++) {
            if (!lists.get(l).isEmpty()) {
                return cut(lists.get(l).getFirst(), n);
            }
        }
        return -1;
    }

    private int cut(Run run, int n) {
        lists.get(listOf(run.words())).remove(run);
        if (run.words() > n) {
            lists.get(listOf(run.words() - n)).addFirst(new Run(run.place() + n, run.words() - n));
        }
        return run.place();
    }

    private static int listOf(int v) {
        int k = 0;
        while (1 << (k + 1) <= v) {
            k++;
        }
        return 4 * k + 4 * (v - (1 << k)) / (1 << k);
    }

    private int quick(int n) {
        if (n <= 8 && !quick.get(n).isEmpty()) {
            return quick.get(n).removeFirst().place();
        }
        int[] counted = new int[1];
        int place = fit(0, runs(), n, 0, counted);
        looked += counted[0];
        if (place < 0) {
            quick.forEach(List::clear);
            counted[0] = 0;
            place = fit(0, runs(), n, 0, counted);
            looked += counted[0];
        }
        return place;
    }

    private int top() {
        return stack.isEmpty() ? 0 : stack.peek().end();
    }

    public int back(int number) {
        needRoom();
        Block block = needBlock(number);
        byPlace.remove(block.place());
        switch (form) {
            case 4:
                halvesBack(block.place(), block.span());
                break;
            case 5:
                pageSpans.keySet().removeIf(page -> isEmptyPage(page));
                break;
            case 7:
                levelsBack(block);
                break;
            case 8:
                while (!stack.isEmpty() && byPlace.get(stack.peek().place()) != stack.peek()) {
                    stack.pop();
                }
                break;
            case 9:
                if (block.span() <= 8) {
                    quick.get(block.span()).addFirst(new Run(block.place(), block.span()));
                }
                break;
            default:
        }
        return block.place();
    }

    private boolean isEmptyPage(int page) {
        for (int word = 32 * page; word < 32 * page + 32; word++) {
            if (holder(word) != null) {
                return false;
            }
        }
        return true;
    }

    private void levelsBack(Block block) {
        int begin = block.place();
        int end = block.end();
        for (LinkedList<Run> list : lists) {
            for (Run run : List.copyOf(list)) {
                if (run.place() + run.words() == block.place()) {
                    begin = run.place();
                    list.remove(run);
                }
                if (run.place() == block.end()) {
                    end = run.place() + run.words();
                    list.remove(run);
                }
            }
        }
        lists.get(listOf(end - begin)).addFirst(new Run(begin, end - begin));
    }

    public int about(int number, int what) {
        range(what, 0, 2);
        needRoom();
        Block block = needBlock(number);
        return new int[] {block.place(), block.span(), block.asked()}[what];
    }

    public int at(int word) {
        range(word, 0, form < 0 ? 1023 : words - 1);
        needRoom();
        Block block = holder(word);
        return block == null ? -1 : block.number();
    }

    private Block holder(int word) {
        Map.Entry<Integer, Block> entry = byPlace.floorEntry(word);
        return entry != null && entry.getValue().end() > word ? entry.getValue() : null;
    }

    private List<Run> runs() {
        boolean[] free = new boolean[words + 1];
        for (int word = 0; word < words; word++) {
            free[word] = holder(word) == null;
        }
        for (LinkedList<Run> row : quick) {
            for (Run one : row) {
                for (int word = one.place(); word < one.place() + one.words(); word++) {
                    free[word] = false;
                }
            }
        }
        List<Run> runs = new ArrayList<>();
        for (int word = 0; word < words; word++) {
            if (free[word]) {
                int begin = word;
                while (free[word]) {
                    word++;
                }
                runs.add(new Run(begin, word - begin));
            }
        }
        return runs;
    }

    public int run(int i, int part) {
        range(part, 0, 1);
        needRoom();
        List<Run> runs = runs();
        if (i < 0 || i >= runs.size()) {
            throw new IndexOutOfBoundsException();
        }
        return part == 0 ? runs.get(i).place() : runs.get(i).words();
    }

    public int list(int l, int i) {
        range(l, 0, 43);
        needRoom();
        if (form != 7) {
            throw new UnsupportedOperationException();
        }
        if (i < 0 || i >= lists.get(l).size()) {
            throw new IndexOutOfBoundsException();
        }
        return lists.get(l).get(i).place();
    }

    public int worst(int form, int most, int live) {
        range(form, 0, 3);
        range(most, 1, 4);
        range(live, most, 8);
        for (int size = live; size <= 14; size++) {
            int outcome = trial(form, most, live, size);
            if (outcome != -1) {
                return outcome;
            }
        }
        return -1;
    }

    /** The size, if each ask found room; -1: one did not; -2: too many ROOMS. */
    private int trial(int form, int most, int live, int size) {
        List<State> order = new ArrayList<>();
        Set<State> seen = new HashSet<>();
        order.add(new State(List.of(), 0));
        seen.add(order.get(0));
        for (int i = 0; i < order.size(); i++) {
            List<State> come = new ArrayList<>();
            boolean found = asks(order.get(i), come, new int[] {form, most, live, size});
            if (found) {
                backs(order.get(i), come);
            }
            for (State state : come) {
                if (seen.add(state)) {
                    if (order.size() == 20000) {
                        rooms = 20000;
                        return -2;
                    }
                    order.add(state);
                }
            }
            rooms = order.size();
            if (!found) {
                return -1;
            }
        }
        return size;
    }

    private static boolean asks(State state, List<State> come, int[] rule) {
        List<Run> free = new ArrayList<>();
        int word = 0;
        int asked = 0;
        for (Run block : state.blocks()) {
            if (block.place() > word) {
                free.add(new Run(word, block.place() - word));
            }
            word = block.place() + block.words();
            asked += block.words();
        }
        if (rule[3] > word) {
            free.add(new Run(word, rule[3] - word));
        }
        for (int n = 1; n <= rule[1] && asked + n <= rule[2]; n++) {
            int place = fit(rule[0], free, n, state.end(), new int[1]);
            if (place < 0) {
                return false;
            }
            List<Run> blocks = new ArrayList<>(state.blocks());
            blocks.add(new Run(place, n));
            blocks.sort(Comparator.comparingInt(Run::place));
            come.add(new State(blocks, rule[0] == 1 ? place + n : 0));
        }
        return true;
    }

    private static void backs(State state, List<State> come) {
        for (int b = 0; b < state.blocks().size(); b++) {
            List<Run> blocks = new ArrayList<>(state.blocks());
            blocks.remove(b);
            come.add(new State(blocks, state.end()));
        }
    }

    public int count(int what) {
        range(what, 0, 12);
        if (what == 0) {
            return form;
        }
        if (what == 12) {
            return rooms;
        }
        if (form < 0) {
            return 0;
        }
        switch (what) {
            case 1: return words;
            case 2: return byPlace.size();
            case 3: return given;
            case 4: return byPlace.values().stream().mapToInt(Block::asked).sum();
            case 5: return byPlace.values().stream().mapToInt(Block::span).sum();
            case 6: return runs().size();
            case 7: return runs().stream().mapToInt(Run::words).max().orElse(0);
            case 8: return looked;
            case 9: return quick.stream().mapToInt(List::size).sum();
            case 10: return form == 4 ? pieces.size() : form == 5 ? words / 32 - pageSpans.size() : 0;
            default: return form == 8 ? top() : 0;
        }
    }

    private static int power(int n) {
        int power = 1;
        while (power < n) {
            power *= 2;
        }
        return power;
    }

    private static void range(int number, int least, int most) {
        if (number < least || number > most) {
            throw new IllegalArgumentException();
        }
    }

    private void needRoom() {
        if (form < 0) {
            throw new IllegalStateException();
        }
    }

    private Block needBlock(int number) {
        for (Block block : byPlace.values()) {
            if (block.number() == number) {
                return block;
            }
        }
        throw new NoSuchElementException();
    }
}
