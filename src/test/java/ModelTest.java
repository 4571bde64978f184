/**
 * Promises 2 to 8 and 10 in long runs: the program answers as the Model does, call by call.
 * An object is used for 512 calls, as the document allows; the runs are the same every time.
 */
public final class ModelTest {
    private static final int CALLS = 512;
    private static final int[] ROOMS = {16, 17, 31, 32, 33, 50, 64, 100, 127, 128, 200, 256, 500, 777, 1000, 1023, 1024};

    private long state;
    private final RoomForms forms = new RoomForms();
    private final Model model = new Model();
    private final String name;

    private ModelTest(long seed) {
        state = seed * 7919 + 12345;
        name = "run " + seed;
    }

    public static void main(String[] args) {
        for (int seed = 0; seed < 2000; seed++) {
            new ModelTest(seed).play(seed % 10, seed / 10);
        }
        Calls.end();
    }

    private int below(int bound) {
        state = state * 6364136223846793005L + 1442695040888963407L;
        return (int) ((state >>> 33) % bound);
    }

    private void play(int form, int round) {
        int words = ROOMS[round % ROOMS.length];
        int most = new int[] {3, 8, 12, 40, Math.max(1, words / 3)}[below(5)];
        // Some runs mostly give, some mostly give back, some look more than they change.
        int gives = 20 + below(60);
        int looks = below(3) == 0 ? 60 : 20;
        ask("open " + form + " " + words);
        for (int i = 1; i < CALLS - 12; i++) {
            if (below(100) < looks) {
                ask(look(words));
            } else if (below(100) < gives) {
                ask("give " + (below(40) == 0 ? below(1100) - 20 : 1 + below(most)));
            } else {
                ask("back " + number());
            }
        }
        for (int what = 0; what < 12; what++) {
            ask("count " + what);
        }
    }

    /** Mostly a BLOCK that may be there. */
    private int number() {
        int given = model.count(3);
        return below(15) == 0 || given == 0 ? below(given + 5) - 2 : Math.max(0, given - 1 - below(Math.min(given, 60)));
    }

    private String look(int words) {
        switch (below(7)) {
            case 0: return "about " + number() + " " + (below(4) - (below(9) == 0 ? 1 : 0));
            case 1: return "at " + (below(words + 2) - 1);
            case 2: return "run " + (below(12) - 1) + " " + (below(9) == 0 ? 2 : below(2));
            case 3: return "list " + (below(46) - 1) + " " + (below(4) - 1);
            default: return "count " + (below(15) - 1);
        }
    }

    private void ask(String call) {
        Calls.same(name + ": " + call, Calls.answer(forms, call), Calls.answer(model, call));
    }
}
