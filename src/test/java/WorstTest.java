/** Promise 9, and count 12 of promise 10: the least words with which nothing can ever fail. */
public final class WorstTest {
    public static void main(String[] args) {
        Calls.on("wrong numbers", "worst -1 1 1 ! IllegalArgumentException; worst 4 1 1 ! IllegalArgumentException;"
                + "worst 0 0 1 ! IllegalArgumentException; worst 0 5 8 ! IllegalArgumentException; worst 0 1 0 ! IllegalArgumentException;"
                + "worst 0 1 9 ! IllegalArgumentException; worst 0 3 2 ! IllegalArgumentException; worst 0 4 3 ! IllegalArgumentException;"
                + "worst -2147483648 1 1 ! IllegalArgumentException; worst 0 -1 -1 ! IllegalArgumentException;"
                + "worst 3 2147483647 2147483647 ! IllegalArgumentException; count 12 = 0; worst 0 1 1 = 1");
        // Single words: never more than live words, and every set of words comes to be taken.
        Calls.on("single words", "worst 0 1 8 = 8; count 12 = 256; worst 2 1 5 = 5; count 12 = 32; worst 3 1 1 = 1; count 12 = 2");
        Calls.on("form 1 knows the end too", "worst 1 1 1 = 1; count 12 = 3");
        Calls.on("2 words of 2", "worst 0 2 2 = 2; count 12 = 5");
        Calls.on("14 are not enough, and too many ROOMS", "worst 0 3 8 = -1; worst 1 2 6 = -2; count 12 = 20000; worst 0 1 2 = 2; count 12 = 4");
        Calls.on("the ROOM stays", "open 1 20; give 4 = 0; give 3 = 1; back 0 = 0; worst 1 2 3 = 4; count 0 = 1; count 1 = 20; count 2 = 1;"
                + "count 3 = 2; count 8 = 2; run 0 1 = 4; give 2 = 2; about 2 0 = 7");
        all();
        Calls.end();
    }

    /** Every call that is allowed, on one object, so that a search never sees an earlier one's ROOMS. */
    private static void all() {
        RoomForms forms = new RoomForms();
        Model model = new Model();
        for (int form = 0; form < 4; form++) {
            for (int most = 1; most <= 4; most++) {
                for (int live = most; live <= 8; live++) {
                    String call = "worst " + form + " " + most + " " + live;
                    Calls.same(call, Calls.answer(forms, call), Calls.answer(model, call));
                    Calls.same("count 12 after " + call, Calls.answer(forms, "count 12"), Calls.answer(model, "count 12"));
                }
            }
        }
    }
}
