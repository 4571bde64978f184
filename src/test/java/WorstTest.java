/** Promise 9, and count 12 of promise 10: the least words with which nothing can ever fail. */
public final class WorstTest {
    public static void main(String[] args) {
        ends();
        refused();
        singleWords();
        fewWords();
        notEnough();
        tooMany();
        Calls.on("the ROOM stays", "open 1 20; give 4 = 0; give 3 = 1; back 0 = 0; worst 1 2 3 = 4; count 0 = 1; count 1 = 20; count 2 = 1;"
                + "count 3 = 2; count 8 = 2; run 0 1 = 4; give 2 = 2; about 2 0 = 7");
        all();
        Calls.end();
    }

    private static void ends() {
        for (int form = 0; form < 4; form++) {
            Calls.on("least most and least live, form " + form, "worst " + form + " 1 1 = 1");
            Calls.on("least most and most live, form " + form, "worst " + form + " 1 8 = 8");
            Calls.on("\"most <= live\": both the same, form " + form, "worst " + form + " 2 2 = 2; worst " + form + " 3 3 = 4;"
                    + "worst " + form + " 4 4 = 6");
            Calls.on("most most and most live, form " + form, "worst " + form + " 4 8 = " + (form == 1 ? -2 : -1));
        }
    }

    private static void refused() {
        for (int form = 0; form < 4; form++) {
            String call = "worst " + form;
            Calls.on("one beyond each end of most and live, form " + form, call + " 0 1 ! IllegalArgumentException;" + call + " 5 8 ! IllegalArgumentException;"
                    + call + " 1 0 ! IllegalArgumentException;" + call + " 1 9 ! IllegalArgumentException;" + call + " 4 9 ! IllegalArgumentException;"
                    + call + " 0 0 ! IllegalArgumentException;" + call + " 5 9 ! IllegalArgumentException; count 12 = 0");
            Calls.on("\"most <= live\": one more, form " + form, call + " 2 1 ! IllegalArgumentException;" + call + " 3 2 ! IllegalArgumentException;"
                    + call + " 4 3 ! IllegalArgumentException;" + call + " 4 1 ! IllegalArgumentException; count 12 = 0");
        }
        Calls.on("one beyond each end of form", "worst -1 1 1 ! IllegalArgumentException; worst 4 1 1 ! IllegalArgumentException;"
                + "worst 9 4 8 ! IllegalArgumentException;"
                + "worst -1 4 8 ! IllegalArgumentException; worst 4 4 8 ! IllegalArgumentException; count 12 = 0");
        Calls.on("far out of range", "worst -2147483648 1 1 ! IllegalArgumentException; worst 2147483647 1 1 ! IllegalArgumentException;"
                + "worst 0 -1 -1 ! IllegalArgumentException; worst 3 2147483647 2147483647 ! IllegalArgumentException;"
                + "worst 0 -2147483648 8 ! IllegalArgumentException; worst 0 1 2147483647 ! IllegalArgumentException; count 12 = 0;"
                + "worst 0 1 1 = 1");
    }

    /**
     * Single words never fail, and each set of words comes to be taken: 2^live ROOMS. In form 1 each of these comes with
     * each end from 1 on, and the empty ROOM with the end 0 too.
     */
    private static void singleWords() {
        for (int live = 1; live <= 8; live++) {
            int sets = 1 << live;
            for (int form = 0; form < 4; form++) {
                Calls.on("single words", "worst " + form + " 1 " + live + " = " + live + ";"
                        + "count 12 = " + (form == 1 ? live * sets + 1 : sets));
            }
        }
    }

    private static void fewWords() {
        // Empty, word 0, words 0 and 1, word 1, and both words as one BLOCK.
        Calls.on("\"the empty one is one\"", "worst 0 2 2 = 2; count 12 = 5");
        Calls.on("\"different ones by where BLOCKS are\": two BLOCKS in the same words as one are another ROOM", "worst 2 2 2 = 2;"
                + "count 12 = 5; worst 3 2 2 = 2; count 12 = 5");
        // Each of these with the end 1 or 2 where the BLOCK given last ended, and the empty one with the end 0.
        Calls.on("\"and with form 1 where the last one ended\"", "worst 1 1 1 = 1; count 12 = 3; worst 1 2 2 = 2; count 12 = 10");
        // With 3 words a BLOCK at word 1 leaves no two words side by side; with 4 words one BLOCK of one word always does.
        for (int form = 0; form < 4; form++) {
            Calls.on("3 words are not enough where 4 are, form " + form, "worst " + form + " 2 3 = 4");
        }
    }

    private static void notEnough() {
        Calls.on("\"-1: 14 are not enough\"", "worst 0 3 8 = -1; worst 0 4 8 = -1; worst 2 4 7 = -1; worst 3 3 7 = -1; worst 3 4 8 = -1");
        Calls.on("just enough", "worst 0 3 7 = 13; worst 0 4 7 = 13; worst 2 3 7 = 13; worst 0 2 8 = 12");
    }

    private static void tooMany() {
        Calls.on("\"-2: .. more than 20000 ROOMS\", and \"20000 with -2\"", "worst 1 2 6 = -2; count 12 = 20000; worst 2 2 8 = -2;"
                + "count 12 = 20000; worst 3 2 8 = -2; count 12 = 20000");
        Calls.on("19948 ROOMS are not too many", "worst 2 3 7 = 13; count 12 = 19948");
        Calls.on("nothing is left of it for the next", "worst 1 2 6 = -2; count 12 = 20000; worst 0 1 2 = 2; count 12 = 4;"
                + "worst 1 2 6 = -2; count 12 = 20000");
    }

    /** Every call that is allowed, on one object, so that a search never sees an earlier one's ROOMS. */
    private static void all() {
        RoomForms forms = new RoomForms();
        Model model = new Model();
        for (int form = 0; form < 4; form++) {
            for (int most = 1; most <= 4; most++) {
                for (int live = most; live <= 8; live++) {
                    String call = "worst " + form + " " + most + " " + live;
                    Calls.same(call, Calls.answer(forms, call), Calls.answer(model, call));
                    Calls.same("count 12 after " + call, Calls.answer(forms, "count 12"), Calls.answer(model, "count 12"));
                }
            }
        }
    }
}
