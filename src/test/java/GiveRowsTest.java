/** Promises 3 and 4 in forms 7 to 9: lists of two levels, a stack, quick rows. */
public final class GiveRowsTest {
    public static void main(String[] args) {
        levels();
        laterLists();
        levelsBack();
        longList();
        stack();
        stackBack();
        quick();
        quickRows();
        quickEmptied();
        longRow();
        Calls.end();
    }

    private static void levels() {
        Calls.on("levels", "open 7 100; give 5 = 0; give 6 = 1; give 5 = 2; give 7 = 3; give 5 = 4; about 4 0 = 23; count 8 = 0;"
                + "back 0 = 0; back 2 = 11; give 5 = 5; about 5 0 = 11; count 8 = 1; back 3 = 16; back 1 = 5;"
                + "give 6 = 6; about 6 0 = 16; count 8 = 1; give 1 = 7; about 7 0 = 22; count 8 = 2; give 12 = 8; about 8 0 = 28;"
                + "count 8 = 2");
        Calls.on("\"of the LIST of n itself all its RUNS are looked at, from the beginning\"", "open 7 200; give 19 = 0; give 1 = 1;"
                + "give 17 = 2;"
                + "give 1 = 3; back 0 = 0; back 2 = 20; count 8 = 0; give 18 = 4; about 4 0 = 0; count 8 = 2; give 18 = 5; about 5 0 = 38;"
                + "count 8 = 3");
        Calls.on("the last RUN of the LIST of n", """
                open 7 100; give 19 = 0; give 1 = 1; give 18 = 2; give 1 = 3; give 17 = 4; give 1 = 5; give 16 = 6; give 27 = 7
                back 0 = 0; back 2 = 20; back 4 = 39; back 6 = 57; list 16 0 = 57; list 16 3 = 0; count 8 = 1
                give 19 = 8; about 8 0 = 0; count 8 = 5; give 19 = -1; count 8 = 8; give 17 = 9; about 9 0 = 39; count 8 = 10
                """);
        Calls.on("no room", "open 7 16; give 17 = -1; count 8 = 1; give 16 = 0; give 1 = -1; back 0 = 0; give 1024 = -1; count 8 = 2");
        Calls.on("empty and full", "open 7 16; give 17 = -1; give 16 = 0; about 0 0 = 0; list 16 0 ! IndexOutOfBoundsException;"
                + "give 1 = -1; back 0 = 0;"
                + "list 16 0 = 0; give 15 = 1; list 0 0 = 15; give 2 = -1; give 1 = 2; about 2 0 = 15;"
                + "list 0 0 ! IndexOutOfBoundsException");
    }

    private static void laterLists() {
        // RUNS of 4 words (LIST 8), 5 (9), 6 (10), 7 (11) and the 9 behind them (12), in this order by PLACE.
        String runs = "open 7 35; give 4 = 0; give 1 = 1; give 5 = 2; give 1 = 3; give 6 = 4; give 1 = 5; give 7 = 6; give 1 = 7;"
                + "back 6 = 18; back 4 = 11; back 2 = 5; back 0 = 0; list 8 0 = 0; list 9 0 = 5; list 10 0 = 11; list 11 0 = 18;"
                + "list 12 0 = 26;";
        Calls.on("\"the first LIST, from that of n on\": not an earlier one", runs + "give 7 = 8; about 8 0 = 18; give 7 = 9;"
                + "about 9 0 = 26; give 7 = -1");
        Calls.on("the first later LIST that has a RUN", runs + "give 3 = 8; about 8 0 = 0; give 3 = 9; about 9 0 = 5; give 3 = 10;"
                + "about 10 0 = 11");
        Calls.on("the last LIST that has a RUN", runs + "give 9 = 8; about 8 0 = 26; give 8 = -1; give 9 = -1; give 1024 = -1");
        Calls.on("a LIST in which no RUN has n words is passed", "open 7 40; give 17 = 0; give 1 = 1; give 1 = 2; back 0 = 0;"
                + "list 16 0 = 0; list 17 0 = 19;"
                + "give 18 = 3; about 3 0 = 19; give 18 = -1; give 17 = 4; about 4 0 = 0");
        Calls.on("\"of later ones the first is taken\": the one that came last, not the first by PLACE", """
                open 7 64; give 5 = 0; give 1 = 1; give 5 = 2; give 1 = 3; give 52 = 4; back 0 = 0; back 2 = 6; give 3 = 5; about 5 0 = 6
                list 4 0 = 9; list 9 0 = 0; back 5 = 6; list 9 0 = 6; list 9 1 = 0
                """);
    }

    private static void levelsBack() {
        String three = "open 7 32; give 4 = 0; give 8 = 1; give 4 = 2; give 16 = 3;";
        Calls.on("between two BLOCKS: a RUN by itself", three + "back 1 = 4; list 12 0 = 4; run 0 1 = 8;"
                + "run 1 0 ! IndexOutOfBoundsException");
        Calls.on("behind a RUN", three + "back 0 = 0; back 1 = 4; list 14 0 = 0; list 8 0 ! IndexOutOfBoundsException;"
                + "list 12 0 ! IndexOutOfBoundsException");
        Calls.on("ahead of a RUN", three + "back 1 = 4; back 0 = 0; list 14 0 = 0; list 8 0 ! IndexOutOfBoundsException;"
                + "list 12 0 ! IndexOutOfBoundsException");
        Calls.on("between two RUNS", three + "back 0 = 0; back 2 = 12; list 8 0 = 12; list 8 1 = 0; back 1 = 4; list 16 0 = 0;"
                + "list 8 0 ! IndexOutOfBoundsException");
        Calls.on("the whole ROOM again", three + "back 0 = 0; back 3 = 16; back 1 = 4; back 2 = 12; list 20 0 = 0;"
                + "list 20 1 ! IndexOutOfBoundsException; give 32 = 4");
    }

    /** 200 BLOCKS of one word, of which each second is given back: as many RUNS as that makes, in one LIST. */
    private static void longList() {
        Calls calls = Calls.on("a LIST of 100 RUNS", "open 7 1024");
        for (int i = 0; i < 200; i++) {
            calls.then("give 1 = " + i);
        }
        for (int i = 0; i < 200; i += 2) {
            calls.then("back " + i + " = " + i);
        }
        calls.then("count 6 = 101; list 0 0 = 198; list 0 1 = 196; list 0 98 = 2; list 0 99 = 0; list 0 100 ! IndexOutOfBoundsException;"
                + "count 8 = 0;"
                + "give 1 = 200; about 200 0 = 198; count 8 = 1; list 0 98 = 0; give 824 = 201; about 201 0 = 200; count 8 = 2;"
                + "give 2 = -1; count 8 = 2;"
                + "back 1 = 1; list 6 0 = 0; list 0 96 = 4; list 0 97 ! IndexOutOfBoundsException; back 199 = 199; list 0 0 = 199;"
                + "list 0 1 = 196");
    }

    private static void stack() {
        Calls.on("stack", "open 8 20; give 5 = 0; give 6 = 1; give 4 = 2; count 11 = 15; give 6 = -1; count 8 = 4; back 1 = 5;"
                + "count 11 = 15;"
                + "count 2 = 2; at 5 = -1; at 4 = 0; back 1 ! NoSuchElementException; about 1 0 ! NoSuchElementException;"
                + "give 5 = 3; about 3 0 = 15; count 11 = 20; back 3 = 15; count 11 = 15; back 2 = 11; count 11 = 5; back 0 = 0;"
                + "count 11 = 0;"
                + "give 20 = 4; about 4 0 = 0; count 8 = 6");
        Calls.on("\"(TOP 0 at first)\"", "open 8 16; count 11 = 0; give 1 = 0; about 0 0 = 0; count 11 = 1");
        Calls.on("\"at TOP, if there is room\": just enough, one too many, none at all", """
                open 8 16; give 17 = -1; count 11 = 0; give 10 = 0; give 7 = -1; count 11 = 10; give 6 = 1; about 1 0 = 10; count 11 = 16
                give 1 = -1; give 1024 = -1; count 11 = 16; count 3 = 2
                """);
        Calls.on("what was given back below TOP gives no room", "open 8 16; give 8 = 0; give 8 = 1; back 0 = 0; give 1 = -1; give 8 = -1;"
                + "count 11 = 16; count 2 = 1");
    }

    private static void stackBack() {
        Calls.on("\"while the last BLOCK by PLACE .. was given back, it goes\": all of several at once", """
                open 8 16; give 2 = 0; give 3 = 1; give 4 = 2; give 5 = 3; back 1 = 2; back 2 = 5; count 11 = 14; back 3 = 9; count 11 = 2
                give 14 = 4; about 4 0 = 2; back 0 = 0; count 11 = 16; back 4 = 2; count 11 = 0; count 2 = 0; run 0 1 = 16
                """);
        Calls.on("one that was not given back keeps those below it", """
                open 8 16; give 2 = 0; give 3 = 1; give 4 = 2; back 0 = 0; back 2 = 5; count 11 = 5; give 1 = 3; about 3 0 = 5
                back 1 = 2; count 11 = 6; back 3 = 5; count 11 = 0
                """);
        Calls.on("the first and only one", "open 8 16; give 16 = 0; back 0 = 0; count 11 = 0; back 0 ! NoSuchElementException;"
                + "give 16 = 1; about 1 0 = 0");
    }

    private static void quick() {
        Calls.on("quick", "open 9 20; give 8 = 0; give 3 = 1; give 3 = 2; give 6 = 3; count 8 = 4; back 1 = 8; back 2 = 11; count 9 = 2;"
                + "count 6 = 0; count 7 = 0; at 8 = -1; back 1 ! NoSuchElementException; give 3 = 4; about 4 0 = 11; count 8 = 4;"
                + "count 9 = 1;"
                + "give 2 = 5; about 5 0 = 8; count 9 = 0; count 8 = 5; give 4 = -1; count 8 = 7; back 0 = 0; count 9 = 1; count 6 = 1");
        Calls.on("\"a BLOCK of 8 words or less\": 9 words are a RUN", "open 9 30; give 9 = 0; give 8 = 1; back 0 = 0; count 6 = 2;"
                + "count 9 = 0; back 1 = 9;"
                + "count 9 = 1; count 6 = 2; give 25 = 2; about 2 0 = 0; count 9 = 0; count 8 = 5");
        for (int n = 1; n <= 9; n++) {
            Calls.on("given back with " + n + " words", "open 9 16; give " + n + " = 0; back 0 = 0; count 9 = " + (n <= 8 ? 1 : 0) + ";"
                    + "run 0 0 = " + (n <= 8 ? n : 0)
                    + "; give " + n + " = 1; about 1 0 = 0; count 9 = 0; count 8 = " + (n <= 8 ? 1 : 2));
        }
    }

    private static void quickRows() {
        Calls.on("\"that at the beginning (ahead of all)\"", "open 9 30; give 4 = 0; give 4 = 1; give 9 = 2; back 0 = 0; back 1 = 4;"
                + "give 3 = 3; about 3 0 = 17;"
                + "give 4 = 4; about 4 0 = 4; give 4 = 5; about 5 0 = 0; count 8 = 4; count 9 = 0");
        Calls.on("ahead of a RUN that comes first by PLACE", "open 9 40; give 10 = 0; give 5 = 1; give 9 = 2; back 0 = 0; back 1 = 10;"
                + "give 5 = 3; about 3 0 = 10;"
                + "count 8 = 3; give 5 = 4; about 4 0 = 0; count 8 = 4");
        Calls.on("another QUICK row is not taken from", "open 9 16; give 7 = 0; give 9 = 1; back 0 = 0; count 9 = 1; give 6 = 2;"
                + "about 2 0 = 0; count 9 = 0; count 8 = 3; run 0 0 = 6");
        Calls.on("QUICK ones side by side are not one", "open 9 16; give 4 = 0; give 4 = 1; give 8 = 2; back 0 = 0; back 1 = 4;"
                + "count 9 = 2; count 6 = 0;"
                + "give 8 = 3; about 3 0 = 0; count 9 = 0; count 8 = 4");
    }

    private static void quickEmptied() {
        Calls.on("\"all QUICK rows are emptied\"", "open 9 36; give 1 = 0; give 2 = 1; give 3 = 2; give 4 = 3; give 5 = 4; give 6 = 5;"
                + "give 7 = 6; give 8 = 7;"
                + "back 0 = 0; back 2 = 3; back 4 = 10; back 6 = 21; back 1 = 1; back 3 = 6; back 5 = 15; back 7 = 28; count 9 = 8;"
                + "count 6 = 0;"
                + "give 9 = 8; about 8 0 = 0; count 9 = 0; run 0 0 = 9; run 0 1 = 27; count 8 = 9");
        Calls.on("no room empties the rows too", "open 9 16; give 4 = 0; back 0 = 0; count 9 = 1; count 7 = 12; give 17 = -1; count 9 = 0;"
                + "count 6 = 1; count 7 = 16; count 8 = 3");
        Calls.on("no room for a small one either", "open 9 16; give 3 = 0; give 13 = 1; back 0 = 0; give 4 = -1; count 9 = 0; run 0 0 = 0;"
                + "run 0 1 = 3; count 8 = 3;"
                + "give 3 = 2; about 2 0 = 0; count 8 = 4");
        Calls.on("room in a RUN leaves the QUICK rows", "open 9 16; give 4 = 0; give 4 = 1; back 0 = 0; give 5 = 2; about 2 0 = 8;"
                + "count 9 = 1; give 3 = 3; count 9 = 1;"
                + "give 1 = 4; about 4 0 = 0; count 9 = 0");
    }

    /** 200 BLOCKS that all come to QUICK rows, of one word and of two in turn. */
    private static void longRow() {
        Calls calls = Calls.on("QUICK rows of 100", "open 9 300");
        for (int i = 0; i < 200; i++) {
            calls.then("give " + (1 + i % 2) + " = " + i);
        }
        for (int i = 0; i < 200; i++) {
            calls.then("back " + i + " = " + (i / 2 * 3 + i % 2));
        }
        calls.then("count 9 = 200; count 2 = 0; count 6 = 0; count 8 = 200; give 1 = 200; about 200 0 = 297; give 1 = 201;"
                + "about 201 0 = 294; give 2 = 202; about 202 0 = 298;"
                + "count 9 = 197; count 8 = 200; give 3 = 203; about 203 0 = 0; count 9 = 0; count 8 = 201; run 0 0 = 3; run 0 1 = 291;"
                + "run 1 0 = 295; run 1 1 = 2");
    }
}
