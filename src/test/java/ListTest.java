/** Promise 8: "The RUN at place i of a LIST, 0 .. 43, from its beginning: its PLACE". */
public final class ListTest {
    public static void main(String[] args) {
        order();
        ends();
        listOfEachLength();
        emptyLists();
        whatIsThrown();
        Calls.end();
    }

    private static void order() {
        Calls.on("\"from its beginning\"", "open 7 100; list 26 0 = 0; list 26 1 ! IndexOutOfBoundsException;"
                + "list 25 0 ! IndexOutOfBoundsException;"
                + "give 5 = 0; list 26 0 ! IndexOutOfBoundsException; list 25 0 = 5; give 6 = 1; give 5 = 2; give 7 = 3; give 5 = 4;"
                + "list 24 0 = 28;"
                + "back 0 = 0; back 2 = 11; list 9 0 = 11; list 9 1 = 0; list 9 2 ! IndexOutOfBoundsException; give 5 = 5; list 9 0 = 0;"
                + "list 9 1 ! IndexOutOfBoundsException; back 3 = 16; list 11 0 = 16; back 1 = 5; list 9 0 ! IndexOutOfBoundsException;"
                + "list 13 0 = 0; give 6 = 6; list 11 0 ! IndexOutOfBoundsException; list 0 0 = 22");
        Calls.on("\"what is left of one from which a BLOCK was taken\" comes to the beginning", "open 7 64; give 17 = 0; give 1 = 1;"
                + "give 19 = 2; give 1 = 3;"
                + "back 2 = 18; back 0 = 0; list 16 0 = 0; list 16 1 = 18; give 18 = 4; about 4 0 = 18; give 1 = 5; about 5 0 = 36;"
                + "give 1 = 6; about 6 0 = 0;"
                + "list 16 0 = 1; back 5 = 36; list 0 0 = 36");
        Calls.on("what is left stays in its LIST, but at the beginning of it", """
                open 7 64; give 19 = 0; give 1 = 1; give 19 = 2; give 1 = 3; give 24 = 4; back 0 = 0; back 2 = 20; list 16 0 = 20
                list 16 1 = 0
                give 2 = 5; about 5 0 = 20; list 16 0 = 22; list 16 1 = 0; back 5 = 20; list 16 0 = 20; give 19 = 6; about 6 0 = 20
                give 3 = 7; about 7 0 = 0; list 16 0 = 3; list 16 1 ! IndexOutOfBoundsException
                """);
        Calls.on("\"what became one by a BLOCK that was given back\" comes to the beginning", """
                open 7 64; give 16 = 0; give 1 = 1; give 1 = 2; give 16 = 3; give 30 = 4; back 0 = 0; back 3 = 18; list 16 0 = 18
                list 16 1 = 0
                back 1 = 16; list 16 0 = 0; list 16 1 = 18; list 16 2 ! IndexOutOfBoundsException; run 0 1 = 17
                """);
    }

    private static void ends() {
        Calls.on("LIST 0: a RUN of one word", "open 7 16; list 0 0 ! IndexOutOfBoundsException; give 15 = 0; list 0 0 = 15;"
                + "list 0 1 ! IndexOutOfBoundsException");
        Calls.on("LIST 43 is there, and never has a RUN", "open 7 1024; list 43 0 ! IndexOutOfBoundsException;"
                + "list 41 0 ! IndexOutOfBoundsException; list 40 0 = 0");
        Calls.on("one beyond each end", "open 7 16; list -1 0 ! IllegalArgumentException; list 44 0 ! IllegalArgumentException;"
                + "list 2147483647 0 ! IllegalArgumentException; list -2147483648 0 ! IllegalArgumentException");
        Calls.on("the last place of a LIST and the one behind it", "open 7 16; give 1 = 0; give 1 = 1; give 1 = 2; give 13 = 3;"
                + "back 0 = 0; back 2 = 2;"
                + "list 0 0 = 2; list 0 1 = 0; list 0 2 ! IndexOutOfBoundsException; list 0 2147483647 ! IndexOutOfBoundsException");
    }

    /** "with 2^k <= v < 2^(k+1): LIST 4 k + (4 (v - 2^k)) / 2^k (cut)": v at both ends of LISTS, worked out by hand. */
    private static void listOfEachLength() {
        int[][] lists = {{1, 0}, {2, 4}, {3, 6}, {4, 8}, {5, 9}, {6, 10}, {7, 11}, {8, 12}, {9, 12}, {10, 13}, {11, 13}, {12, 14}, {14, 15}, {15, 15},
            {16, 16}, {19, 16}, {20, 17}, {23, 17}, {24, 18}, {27, 18}, {28, 19}, {31, 19}, {32, 20}, {39, 20}, {40, 21}, {63, 23}, {64, 24}, {127, 27},
            {128, 28}, {255, 31}, {256, 32}, {511, 35}, {512, 36}, {639, 36}, {640, 37}, {767, 37}, {768, 38}, {895, 38}, {896, 39}, {1023, 39}};
        for (int[] list : lists) {
            int v = list[0];
            Calls calls = Calls.on("a RUN of " + v + " words", "open 7 1024; give " + (1024 - v) + " = 0;"
                    + "list " + list[1] + " 0 = " + (1024 - v)
                    + "; list " + list[1] + " 1 ! IndexOutOfBoundsException; run 0 1 = " + v);
            for (int l = 0; l < 44; l++) {
                if (l != list[1]) {
                    calls.then("list " + l + " 0 ! IndexOutOfBoundsException");
                }
            }
        }
        Calls.on("\"at first all words\"", "open 7 1024; list 40 0 = 0; open 7 1023; list 39 0 = 0; open 7 16; list 16 0 = 0; open 7 20;"
                + "list 17 0 = 0; open 7 31; list 19 0 = 0");
    }

    private static void emptyLists() {
        Calls calls = Calls.on("a full ROOM has no RUN in any LIST", "open 7 16; give 16 = 0");
        for (int l = 0; l < 44; l++) {
            calls.then("list " + l + " 0 ! IndexOutOfBoundsException");
        }
        calls.then("back 0 = 0; list 16 0 = 0");
    }

    private static void whatIsThrown() {
        Calls.on("without ROOM", "list -1 0 ! IllegalArgumentException; list 44 0 ! IllegalArgumentException;"
                + "list 0 0 ! IllegalStateException; list 43 9 ! IllegalStateException");
        for (int form = 0; form < 10; form++) {
            if (form != 7) {
                Calls.on("\"form 7 alone: else UnsupportedOperationException\", form " + form, "open " + form + " 16;"
                        + "list 16 0 ! UnsupportedOperationException;"
                        + "list 0 5 ! UnsupportedOperationException; list 43 2147483647 ! UnsupportedOperationException;"
                        + "list 44 0 ! IllegalArgumentException; list -1 0 ! IllegalArgumentException");
            }
        }
        Calls.on("the ROOM opened last says whether there are LISTS", "open 7 16; list 16 0 = 0; open 0 16;"
                + "list 16 0 ! UnsupportedOperationException; open 7 16; list 16 0 = 0");
    }
}
