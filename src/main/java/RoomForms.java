import java.util.Arrays;
import java.util.NoSuchElementException;

/** Ten forms of giving room in a row of words. The document's terms stand in capitals. */
public final class RoomForms {
    private static final int NONE = -1;

    private static final int FORMS = 10;
    private static final int FITS = 4;
    private static final int LEVELS = 7;
    private static final int LEAST_WORDS = 16;
    private static final int MOST_WORDS = 1024;
    private static final int MOST_BLOCKS = 200;
    private static final int LISTS = 44;
    private static final int COUNTS = 13;

    private static final int SEARCH_MOST_ASK = 4;
    private static final int SEARCH_MOST_LIVE = 8;

    private final Room room = new Room();
    private final Form[] forms = new Form[FORMS];
    /** The FORM of the ROOM; null while there is no ROOM. */
    private Form form = null;
    private int formNumber = NONE;
    /** Made by the first call of worst: its rows are large, and most objects never need them. */
    private Search search = null;

    public RoomForms() {
        for (int f = 0; f < FITS; f++) {
            forms[f] = new Fits(room, f);
        }
        forms[4] = new Halves(room);
        forms[5] = new Pages(room);
        forms[6] = new Grains(room);
        forms[LEVELS] = new Levels(room);
        forms[8] = new Stack(room);
        forms[9] = new Quick(room);
    }

    public void open(int form, int words) throws IllegalArgumentException {
        if (form < 0 || form >= FORMS) {
            throw new IllegalArgumentException("a form is 0 to 9");
        }
        if (words < LEAST_WORDS || words > MOST_WORDS) {
            throw new IllegalArgumentException("a ROOM has 16 to 1024 words");
        }
        room.empty(words);
        this.formNumber = form;
        this.form = forms[form];
        this.form.begin();
    }

    public int give(int n) throws IllegalArgumentException, IllegalStateException, IndexOutOfBoundsException {
        if (n < 1 || n > MOST_WORDS) {
            throw new IllegalArgumentException("1 to 1024 words can be asked");
        }
        needRoom();
        if (room.blocks() >= MOST_BLOCKS) {
            throw new IndexOutOfBoundsException("200 BLOCKS are there");
        }
        int span = form.spanOf(n);
        int place = form.take(span);
        return place == NONE ? NONE : room.settle(place, span, n);
    }

    public int back(int block) throws IllegalStateException, NoSuchElementException {
        needRoom();
        int slot = needBlock(block);
        int place = room.placeOf(slot);
        int span = room.spanOf(slot);
        room.remove(slot);
        form.takeBack(place, span);
        return place;
    }

    public int about(int block, int what)
            throws IllegalArgumentException, IllegalStateException, NoSuchElementException {
        if (what < 0 || what > 2) {
            throw new IllegalArgumentException("what is 0 to 2");
        }
        needRoom();
        int slot = needBlock(block);
        if (what == 0) {
            return room.placeOf(slot);
        }
        return what == 1 ? room.spanOf(slot) : room.askedOf(slot);
    }

    public int at(int word) throws IllegalArgumentException, IllegalStateException {
        int words = form == null ? MOST_WORDS : room.words();
        if (word < 0 || word >= words) {
            throw new IllegalArgumentException("there is no such word");
        }
        needRoom();
        return room.blockAt(word);
    }

    public int run(int i, int part)
            throws IllegalArgumentException, IllegalStateException, IndexOutOfBoundsException {
        if (part < 0 || part > 1) {
            throw new IllegalArgumentException("part is 0 or 1");
        }
        needRoom();
        Stretches runs = room.listRuns();
        if (i < 0 || i >= runs.size()) {
            throw new IndexOutOfBoundsException("there is no such RUN");
        }
        return part == 0 ? runs.placeOf(i) : runs.wordsOf(i);
    }

    public int list(int l, int i) throws IllegalArgumentException, IllegalStateException,
            UnsupportedOperationException, IndexOutOfBoundsException {
        if (l < 0 || l >= LISTS) {
            throw new IllegalArgumentException("a LIST is 0 to 43");
        }
        needRoom();
        if (formNumber != LEVELS) {
            throw new UnsupportedOperationException("form 7 alone has LISTS");
        }
        int place = form.placeInList(l, i);
        if (place == NONE) {
            throw new IndexOutOfBoundsException("there is no such RUN in the LIST");
        }
        return place;
    }

    public int worst(int form, int most, int live) throws IllegalArgumentException {
        if (form < 0 || form >= FITS) {
            throw new IllegalArgumentException("a form is 0 to 3 here");
        }
        if (most < 1 || most > SEARCH_MOST_ASK) {
            throw new IllegalArgumentException("most is 1 to 4");
        }
        if (live < 1 || live > SEARCH_MOST_LIVE || most > live) {
            throw new IllegalArgumentException("live is 1 to 8, and most or more");
        }
        if (search == null) {
            search = new Search();
        }
        return search.leastWords(form, most, live);
    }

    public int count(int what) throws IllegalArgumentException {
        if (what < 0 || what >= COUNTS) {
            throw new IllegalArgumentException("what is 0 to 12");
        }
        if (what == 0) {
            return formNumber;
        }
        if (what == 12) {
            return search == null ? 0 : search.met();
        }
        if (form == null) {
            return 0;
        }
        return what <= 8 ? countInRoom(what) : countInForm(what);
    }

    private int countInRoom(int what) {
        switch (what) {
            case 1: return room.words();
            case 2: return room.blocks();
            case 3: return room.given();
            case 4: return room.askedTogether();
            case 5: return room.spansTogether();
            case 6: return room.listRuns().size();
            case 7: return room.listRuns().mostWords();
            default: return room.looked();
        }
    }

    private int countInForm(int what) {
        switch (what) {
            case 9: return form.quickOnes();
            case 10: return form.freeParts();
            default: return form.top();
        }
    }

    private void needRoom() {
        if (form == null) {
            throw new IllegalStateException("there is no ROOM");
        }
    }

    private int needBlock(int block) {
        int slot = room.slotOf(block);
        if (slot == NONE) {
            throw new NoSuchElementException("there is no such BLOCK");
        }
        return slot;
    }

    /** The least power of two that is n or more; n is 1 to 1024. */
    private static int powerFrom(int n) {
        for (int power = 1; power < MOST_WORDS; power += power) {
            if (power >= n) {
                return power;
            }
        }
        return MOST_WORDS;
    }

    /** Rows of words, each a place and how many words, in the order in which they were added. */
    private static final class Stretches {
        private final int[] places;
        private final int[] words;
        private int size = 0;
        private int looked = 0;

        Stretches(int most) {
            int room = Math.max(most, 0);
            places = new int[room];
            words = new int[room];
        }

        void clear() {
            size = 0;
        }

        int size() {
            return size;
        }

        void add(int place, int count) {
            if (size < places.length) {
                places[size] = place;
                words[size] = count;
                size++;
            }
        }

        void remove(int i) {
            if (i < 0 || i >= size) {
                return;
            }
            size--;
            System.arraycopy(places, i + 1, places, i, size - i);
            System.arraycopy(words, i + 1, words, i, size - i);
        }

        int placeOf(int i) {
            return i < 0 || i >= size ? NONE : places[i];
        }

        int wordsOf(int i) {
            return i < 0 || i >= size ? 0 : words[i];
        }

        int endOf(int i) {
            return i < 0 || i >= size ? NONE : places[i] + words[i];
        }

        int mostWords() {
            int most = 0;
            for (int i = 0; i < size; i++) {
                most = Math.max(most, words[i]);
            }
            return most;
        }

        /** How many the latest find came to. */
        int looked() {
            return looked;
        }

        /**
         * The place for n words as forms 0 to 3 find it, NONE without room; the stretches are RUNS
         * by PLACE. For form 1, end is where the BLOCK given last ended.
         */
        int find(int form, int n, int end) {
            looked = 0;
            switch (form) {
                case 1: return nextFit(n, end);
                case 2: return bestFit(n);
                case 3: return greatestFit(n);
                default: return firstFit(n);
            }
        }

        private int firstFit(int n) {
            for (int i = 0; i < size; i++) {
                looked++;
                if (words[i] >= n) {
                    return places[i];
                }
            }
            return NONE;
        }

        private int nextFit(int n, int end) {
            for (int i = 0; i < size; i++) {
                int from = Math.max(places[i], end);
                int left = places[i] + words[i] - from;
                if (left > 0) {
                    looked++;
                    if (left >= n) {
                        return from;
                    }
                }
            }
            for (int i = 0; i < size && places[i] < end; i++) {
                looked++;
                if (words[i] >= n) {
                    return places[i];
                }
            }
            return NONE;
        }

        private int bestFit(int n) {
            int best = NONE;
            for (int i = 0; i < size; i++) {
                if (words[i] >= n && (best == NONE || words[i] < words[best])) {
                    best = i;
                }
            }
            looked = size;
            return placeOf(best);
        }

        private int greatestFit(int n) {
            int greatest = NONE;
            for (int i = 0; i < size; i++) {
                if (words[i] >= n && (greatest == NONE || words[i] > words[greatest])) {
                    greatest = i;
                }
            }
            looked = size;
            return placeOf(greatest);
        }
    }

    /** The row of words and the BLOCKS in it; where a BLOCK comes is the FORM's to say. */
    private static final class Room {
        private static final int FREE = -1;
        private static final int QUICK = -2;

        /** Of each word: the NUMBER of its BLOCK, FREE or QUICK. */
        private final int[] owners = new int[MOST_WORDS];
        private final int[] numbers = new int[MOST_BLOCKS];
        private final int[] places = new int[MOST_BLOCKS];
        private final int[] spans = new int[MOST_BLOCKS];
        private final int[] asked = new int[MOST_BLOCKS];
        /** Between two RUNS stands a word that is not free, so that there are never more. */
        private final Stretches runs = new Stretches((MOST_WORDS + 1) / 2);
        private int words = 0;
        private int blocks = 0;
        private int given = 0;
        private int looked = 0;

        void empty(int count) {
            words = Math.min(Math.max(count, 0), MOST_WORDS);
            blocks = 0;
            given = 0;
            looked = 0;
            Arrays.fill(owners, FREE);
        }

        int words() {
            return words;
        }

        int blocks() {
            return blocks;
        }

        int given() {
            return given;
        }

        int looked() {
            return looked;
        }

        void addLooked(int more) {
            looked += more;
        }

        /** Makes a BLOCK and answers its NUMBER. */
        int settle(int place, int span, int n) {
            if (blocks >= MOST_BLOCKS) {
                return NONE;
            }
            int number = given;
            numbers[blocks] = number;
            places[blocks] = place;
            spans[blocks] = span;
            asked[blocks] = n;
            blocks++;
            given++;
            mark(place, span, number);
            return number;
        }

        /** The last BLOCK moves to the slot that becomes empty: no answer depends on their order. */
        void remove(int slot) {
            if (slot < 0 || slot >= blocks) {
                return;
            }
            mark(places[slot], spans[slot], FREE);
            blocks--;
            numbers[slot] = numbers[blocks];
            places[slot] = places[blocks];
            spans[slot] = spans[blocks];
            asked[slot] = asked[blocks];
        }

        void markQuick(int place, int span) {
            mark(place, span, QUICK);
        }

        void markFree(int place, int span) {
            mark(place, span, FREE);
        }

        private void mark(int place, int span, int owner) {
            int end = Math.min(place + span, words);
            for (int w = Math.max(place, 0); w < end; w++) {
                owners[w] = owner;
            }
        }

        int slotOf(int number) {
            for (int slot = 0; slot < blocks; slot++) {
                if (numbers[slot] == number) {
                    return slot;
                }
            }
            return NONE;
        }

        int placeOf(int slot) {
            return slot < 0 || slot >= blocks ? NONE : places[slot];
        }

        int spanOf(int slot) {
            return slot < 0 || slot >= blocks ? 0 : spans[slot];
        }

        int askedOf(int slot) {
            return slot < 0 || slot >= blocks ? 0 : asked[slot];
        }

        int blockAt(int word) {
            return word < 0 || word >= words ? NONE : Math.max(owners[word], NONE);
        }

        boolean isFree(int word) {
            return word >= 0 && word < words && owners[word] == FREE;
        }

        int askedTogether() {
            int sum = 0;
            for (int slot = 0; slot < blocks; slot++) {
                sum += asked[slot];
            }
            return sum;
        }

        int spansTogether() {
            int sum = 0;
            for (int slot = 0; slot < blocks; slot++) {
                sum += spans[slot];
            }
            return sum;
        }

        /** The RUNS by PLACE, as they are now; the next call lists them anew in the same rows. */
        Stretches listRuns() {
            runs.clear();
            int begin = 0;
            for (int w = 0; w <= words; w++) {
                if (!isFree(w)) {
                    if (w > begin) {
                        runs.add(begin, w - begin);
                    }
                    begin = w + 1;
                }
            }
            return runs;
        }
    }

    /** A way of giving room. What a FORM knows beyond the words' owners, it keeps itself. */
    private abstract static class Form {
        final Room room;

        Form(Room room) {
            this.room = room;
        }

        /** Begins anew with the ROOM, which is empty. */
        abstract void begin();

        /** Finds the place of a new BLOCK of a SPAN, takes it and counts what it came to; NONE: no room. */
        abstract int take(int span);

        /** Keeps up with a BLOCK that was given back; in the ROOM its words are free again already. */
        abstract void takeBack(int place, int span);

        int spanOf(int n) {
            return n;
        }

        int quickOnes() {
            return 0;
        }

        int freeParts() {
            return 0;
        }

        int top() {
            return 0;
        }

        /** The PLACE of the RUN at place i of LIST l; NONE: there is none. */
        int placeInList(int l, int i) {
            return NONE;
        }
    }

    /** Forms 0 to 3. */
    private static final class Fits extends Form {
        private final int number;
        private int lastEnd = 0;

        Fits(Room room, int number) {
            super(room);
            this.number = number;
        }

        void begin() {
            lastEnd = 0;
        }

        int take(int span) {
            Stretches runs = room.listRuns();
            int place = runs.find(number, span, lastEnd);
            room.addLooked(runs.looked());
            if (place != NONE) {
                lastEnd = place + span;
            }
            return place;
        }

        void takeBack(int place, int span) {
            // The RUNS are read from the words: nothing is kept here.
        }
    }

    /** Form 4. */
    private static final class Halves extends Form {
        /** Of each place: the words of the free PIECE that begins there, or 0. */
        private final int[] pieces = new int[MOST_WORDS];
        private int whole = 0;

        Halves(Room room) {
            super(room);
        }

        void begin() {
            int power = powerFrom(room.words());
            whole = power > room.words() ? power / 2 : power;
            Arrays.fill(pieces, 0);
            pieces[0] = whole;
        }

        int spanOf(int n) {
            return powerFrom(n);
        }

        int take(int span) {
            room.addLooked(freeParts());
            int place = smallestPiece(span);
            if (place == NONE) {
                return NONE;
            }
            for (int half = pieces[place] / 2; half >= span && half > 0 && place + half < whole; half /= 2) {
                pieces[place + half] = half;
            }
            pieces[place] = 0;
            return place;
        }

        private int smallestPiece(int span) {
            int best = NONE;
            for (int p = 0; p < whole; p++) {
                if (pieces[p] >= span && (best == NONE || pieces[p] < pieces[best])) {
                    best = p;
                }
            }
            return best;
        }

        void takeBack(int place, int span) {
            if (place < 0 || place >= whole) {
                return;
            }
            int begin = place;
            int size = span;
            for (; size > 0 && size < whole; size += size) {
                int other = begin ^ size;
                if (other >= whole || pieces[other] != size) {
                    break;
                }
                pieces[other] = 0;
                begin = Math.min(begin, other);
            }
            pieces[begin] = size;
        }

        int freeParts() {
            int free = 0;
            for (int p = 0; p < whole; p++) {
                if (pieces[p] > 0) {
                    free++;
                }
            }
            return free;
        }
    }

    /** Form 5. */
    private static final class Pages extends Form {
        private static final int PAGE = 32;

        /** Of each PAGE: the SPAN of the BLOCKS in it; 0: the PAGE is free. */
        private final int[] spans = new int[MOST_WORDS / PAGE];
        private final int[] blocks = new int[MOST_WORDS / PAGE];
        private int pages = 0;

        Pages(Room room) {
            super(room);
        }

        void begin() {
            pages = room.words() / PAGE;
            Arrays.fill(spans, 0);
            Arrays.fill(blocks, 0);
        }

        int spanOf(int n) {
            return n <= PAGE ? powerFrom(n) : (n + PAGE - 1) / PAGE * PAGE;
        }

        int take(int span) {
            if (span > PAGE) {
                return takeRow(span / PAGE, span);
            }
            int place = takeInPageOf(span);
            return place == NONE ? takeRow(1, span) : place;
        }

        private int takeInPageOf(int span) {
            for (int p = 0; p < pages; p++) {
                if (spans[p] == span) {
                    room.addLooked(1);
                    int place = freePlaceIn(p, span);
                    if (place != NONE) {
                        blocks[p]++;
                        return place;
                    }
                }
            }
            return NONE;
        }

        private int freePlaceIn(int page, int span) {
            int end = (page + 1) * PAGE;
            for (int place = page * PAGE; place < end; place += Math.max(span, 1)) {
                if (room.isFree(place)) {
                    return place;
                }
            }
            return NONE;
        }

        /** Takes the first row of so many free PAGES for one BLOCK. */
        private int takeRow(int count, int span) {
            int free = 0;
            for (int p = 0; p < pages; p++) {
                room.addLooked(1);
                free = spans[p] == 0 ? free + 1 : 0;
                if (free == count) {
                    int first = p - count + 1;
                    setPages(first, count, span);
                    return first * PAGE;
                }
            }
            return NONE;
        }

        private void setPages(int first, int count, int span) {
            for (int p = Math.max(first, 0); p < first + count && p < pages; p++) {
                spans[p] = span;
                blocks[p] = span == 0 ? 0 : 1;
            }
        }

        void takeBack(int place, int span) {
            int page = place / PAGE;
            if (page < 0 || page >= pages) {
                return;
            }
            blocks[page]--;
            if (blocks[page] <= 0) {
                setPages(page, (span + PAGE - 1) / PAGE, 0);
            }
        }

        int freeParts() {
            int free = 0;
            for (int p = 0; p < pages; p++) {
                if (spans[p] == 0) {
                    free++;
                }
            }
            return free;
        }
    }

    /** Form 6. */
    private static final class Grains extends Form {
        private static final int GRAIN = 4;
        private static final int MOST_STEP = 8;

        private int grains = 0;

        Grains(Room room) {
            super(room);
        }

        void begin() {
            grains = room.words() / GRAIN;
        }

        int spanOf(int n) {
            return (n + GRAIN - 1) / GRAIN * GRAIN;
        }

        int take(int span) {
            int need = span / GRAIN;
            int step = Math.min(powerFrom(need), MOST_STEP);
            for (int g = 0; g + need <= grains; g += step) {
                room.addLooked(1);
                if (areFree(g, need)) {
                    return g * GRAIN;
                }
            }
            return NONE;
        }

        private boolean areFree(int first, int count) {
            for (int g = first; g < first + count; g++) {
                if (!room.isFree(g * GRAIN)) {
                    return false;
                }
            }
            return true;
        }

        void takeBack(int place, int span) {
            // The GRAINS are read from the words: nothing is kept here.
        }
    }

    /** Form 7. */
    private static final class Levels extends Form {
        /**
         * All RUNS in the order in which they came to be. Since a RUN comes to the beginning
         * of its LIST, a LIST is what of these belongs to it, read from the last one back.
         */
        private final Stretches runs = new Stretches(MOST_BLOCKS + 1);

        Levels(Room room) {
            super(room);
        }

        void begin() {
            runs.clear();
            runs.add(0, room.words());
        }

        int take(int span) {
            int i = findInListOf(span);
            if (i == NONE) {
                i = firstOfLaterList(listOf(span));
            }
            if (i == NONE) {
                return NONE;
            }
            int place = runs.placeOf(i);
            int left = runs.wordsOf(i) - span;
            runs.remove(i);
            if (left > 0) {
                runs.add(place + span, left);
            }
            return place;
        }

        private int findInListOf(int n) {
            int l = listOf(n);
            for (int i = runs.size() - 1; i >= 0; i--) {
                if (listOf(runs.wordsOf(i)) == l) {
                    room.addLooked(1);
                    if (runs.wordsOf(i) >= n) {
                        return i;
                    }
                }
            }
            return NONE;
        }

        /** What is taken from a later LIST is long enough by its LIST: its words are not looked at. */
        private int firstOfLaterList(int l) {
            int found = NONE;
            int foundList = LISTS;
            for (int i = runs.size() - 1; i >= 0; i--) {
                int other = listOf(runs.wordsOf(i));
                if (other > l && other < foundList) {
                    found = i;
                    foundList = other;
                }
            }
            return found;
        }

        void takeBack(int place, int span) {
            int begin = place;
            int end = place + span;
            for (int i = runs.size() - 1; i >= 0; i--) {
                if (runs.endOf(i) == place) {
                    begin = runs.placeOf(i);
                    runs.remove(i);
                } else if (runs.placeOf(i) == place + span) {
                    end = runs.endOf(i);
                    runs.remove(i);
                }
            }
            runs.add(begin, end - begin);
        }

        int placeInList(int l, int i) {
            int ahead = 0;
            for (int r = runs.size() - 1; r >= 0; r--) {
                if (listOf(runs.wordsOf(r)) == l) {
                    if (ahead == i) {
                        return runs.placeOf(r);
                    }
                    ahead++;
                }
            }
            return NONE;
        }

        private static int listOf(int words) {
            int k = 0;
            int power = 1;
            for (int i = 0; i < 10 && power + power <= words; i++) {
                power += power;
                k++;
            }
            return 4 * k + (4 * (words - power) >> k);
        }
    }

    /** Form 8. */
    private static final class Stack extends Form {
        private int top = 0;

        Stack(Room room) {
            super(room);
        }

        void begin() {
            top = 0;
        }

        int take(int span) {
            room.addLooked(1);
            if (span > room.words() - top) {
                return NONE;
            }
            int place = top;
            top += span;
            return place;
        }

        /**
         * BLOCKS stand on the stack without gaps, so that all given back ones above the last
         * that was not have gone when the word below TOP has a BLOCK.
         */
        void takeBack(int place, int span) {
            while (top > 0 && room.isFree(top - 1)) {
                top--;
            }
        }

        int top() {
            return top;
        }
    }

    /** Form 9. */
    private static final class Quick extends Form {
        private static final int MOST_QUICK = 8;

        /** All QUICK ones in the order in which they came; of a row, the last is at the beginning. */
        private final Stretches quick = new Stretches(MOST_WORDS);

        Quick(Room room) {
            super(room);
        }

        void begin() {
            quick.clear();
        }

        int take(int span) {
            int place = takeQuick(span);
            if (place == NONE) {
                place = takeFirst(span);
            }
            if (place == NONE) {
                emptyRows();
                place = takeFirst(span);
            }
            return place;
        }

        private int takeQuick(int span) {
            for (int i = quick.size() - 1; i >= 0; i--) {
                if (quick.wordsOf(i) == span) {
                    int place = quick.placeOf(i);
                    quick.remove(i);
                    return place;
                }
            }
            return NONE;
        }

        private int takeFirst(int span) {
            Stretches runs = room.listRuns();
            int place = runs.find(0, span, 0);
            room.addLooked(runs.looked());
            return place;
        }

        private void emptyRows() {
            for (int i = 0; i < quick.size(); i++) {
                room.markFree(quick.placeOf(i), quick.wordsOf(i));
            }
            quick.clear();
        }

        void takeBack(int place, int span) {
            if (span <= MOST_QUICK) {
                quick.add(place, span);
                room.markQuick(place, span);
            }
        }

        int quickOnes() {
            return quick.size();
        }
    }

    /**
     * WORST: looks at all ROOMS that may come, in breadth. Such a ROOM is one int: a bit for each
     * word that a BLOCK has, a bit for each word at which one begins, and where the last one ended.
     */
    private static final class Search {
        private static final int MOST_ROOMS = 20000;
        private static final int MOST_SIZE = 14;
        private static final int WORD_BITS = (1 << MOST_SIZE) - 1;
        private static final int SLOT_BITS = 15;
        private static final int SLOTS = 1 << SLOT_BITS;

        private static final int HOLDS = 0;
        private static final int FAILS = 1;
        private static final int TOO_MANY = 2;

        /** The ROOMS in the order in which they were come to. */
        private final int[] rooms = new int[MOST_ROOMS];
        /** Of each slot: base and the index of its ROOM; what is less than base is an earlier trial's. */
        private final int[] slots = new int[SLOTS];
        private final Stretches runs = new Stretches(MOST_SIZE);
        private int base = 1;
        private int met = 0;
        private int form = 0;
        private int most = 0;
        private int live = 0;
        private int words = 0;

        int met() {
            return met;
        }

        int leastWords(int form, int most, int live) {
            this.form = form;
            this.most = most;
            this.live = live;
            for (int size = live; size <= MOST_SIZE; size++) {
                words = size;
                int outcome = lookAtAll();
                if (outcome == HOLDS) {
                    return size;
                }
                if (outcome == TOO_MANY) {
                    return -2;
                }
            }
            return -1;
        }

        private int lookAtAll() {
            base += met;
            met = 0;
            meet(0, 0, 0);
            for (int next = 0; next < met && next < MOST_ROOMS; next++) {
                int outcome = lookAt(rooms[next]);
                if (outcome != HOLDS) {
                    return outcome;
                }
            }
            return HOLDS;
        }

        private int lookAt(int code) {
            int taken = code & WORD_BITS;
            int begins = code >>> MOST_SIZE & WORD_BITS;
            int end = code >>> 2 * MOST_SIZE;
            int outcome = askAll(taken, begins, end);
            return outcome == HOLDS ? giveAllBack(taken, begins, end) : outcome;
        }

        private int askAll(int taken, int begins, int end) {
            listRuns(taken);
            int mostNow = Math.min(most, live - Integer.bitCount(taken));
            for (int n = 1; n <= mostNow; n++) {
                int place = runs.find(form, n, end);
                if (place == NONE) {
                    return FAILS;
                }
                int block = (1 << n) - 1 << place;
                int newEnd = form == 1 ? place + n : 0;
                if (!meet(taken | block, begins | 1 << place, newEnd)) {
                    return TOO_MANY;
                }
            }
            return HOLDS;
        }

        private int giveAllBack(int taken, int begins, int end) {
            for (int place = 0; place < words; place++) {
                if ((begins >>> place & 1) == 1) {
                    int block = blockFrom(place, taken, begins);
                    if (!meet(taken & ~block, begins & ~(1 << place), end)) {
                        return TOO_MANY;
                    }
                }
            }
            return HOLDS;
        }

        /** The bits of the BLOCK that begins at a place: up to the next beginning or free word. */
        private int blockFrom(int place, int taken, int begins) {
            int inner = taken & ~begins;
            int block = 1 << place;
            for (int w = place + 1; w < words && (inner >>> w & 1) == 1; w++) {
                block |= 1 << w;
            }
            return block;
        }

        private void listRuns(int taken) {
            runs.clear();
            int begin = 0;
            for (int w = 0; w <= words; w++) {
                if (w == words || (taken >>> w & 1) == 1) {
                    if (w > begin) {
                        runs.add(begin, w - begin);
                    }
                    begin = w + 1;
                }
            }
        }

        /** Notes a ROOM, if it is a new one; false: it is new, and there are 20000 already. */
        private boolean meet(int taken, int begins, int end) {
            int code = taken | begins << MOST_SIZE | end << 2 * MOST_SIZE;
            int slot = code * 0x9E3779B1 >>> 32 - SLOT_BITS;
            for (int tries = 0; tries < SLOTS; tries++) {
                int index = slots[slot] - base;
                if (index < 0 || index >= met) {
                    return addRoom(code, slot);
                }
                if (rooms[index] == code) {
                    return true;
                }
                slot = slot + 1 & SLOTS - 1;
            }
            return false;
        }

        private boolean addRoom(int code, int slot) {
            if (met >= MOST_ROOMS) {
                return false;
            }
            rooms[met] = code;
            slots[slot] = base + met;
            met++;
            return true;
        }
    }
}
