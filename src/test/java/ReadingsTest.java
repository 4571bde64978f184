/**
 * Where the document's words leave a choice: what they say most plainly, a test for each. README.md
 * names the readings; what is held here was worked out from the words that are quoted (the numbers of
 * worst, which are too great for that, are those in which the program and the Model agree).
 */
public final class ReadingsTest {
    public static void main(String[] args) {
        lookedInLists();
        runsOnTheStack();
        onceMore();
        negativePlaces();
        roomsThatWorstComesTo();
        blocksThatAreThere();
        wordsInNoPart();
        Calls.end();
    }

    /** LOOKED of form 7 is "RUNS whose words were looked at": "of the LIST of n itself .. are looked at", "of later ones the first is taken". */
    private static void lookedInLists() {
        Calls.on("a RUN that is taken from a later LIST is not looked at", "open 7 64; give 1 = 0; count 8 = 0; give 20 = 1; count 8 = 0;"
                + "give 7 = 2; count 8 = 0");
        Calls.on("the RUN of the LIST of n that is taken is looked at", "open 7 64; give 64 = 0; count 8 = 1; back 0 = 0; give 64 = 1;"
                + "count 8 = 2");
        String two = "open 7 64; give 19 = 0; give 1 = 1; give 16 = 2; give 1 = 3; give 27 = 4; count 8 = 1; back 0 = 0; back 2 = 20;"
                + "list 16 0 = 20; list 16 1 = 0;";
        Calls.on("\"from the beginning\": those behind the one that is taken are not come to", two + "give 16 = 5; about 5 0 = 20;"
                + "count 8 = 2");
        Calls.on("those ahead of the one that is taken are", two + "give 17 = 5; about 5 0 = 0; count 8 = 3");
        Calls.on("all of them, if none has n words", "open 7 64; give 18 = 0; give 1 = 1; give 16 = 2; give 1 = 3; give 28 = 4;"
                + "count 8 = 1; back 0 = 0; back 2 = 19;"
                + "list 16 1 = 0; give 19 = -1; count 8 = 3");
        Calls.on("none of an earlier LIST", "open 7 16; give 1 = 0; give 1 = 1; give 1 = 2; give 13 = 3; back 0 = 0; back 2 = 2;"
                + "count 8 = 1; give 2 = -1; count 8 = 1");
    }

    /** "A RUN is a row of words that no BLOCK has", and of "The BLOCK that has a word" what was given back on the stack is none. */
    private static void runsOnTheStack() {
        Calls.on("words given back below TOP are a RUN", """
                open 8 20; give 5 = 0; give 6 = 1; give 4 = 2; back 1 = 5; count 11 = 15; at 5 = -1; at 10 = -1
                count 6 = 2; run 0 0 = 5; run 0 1 = 6; run 1 0 = 15; run 1 1 = 5; count 7 = 6
                """);
        Calls.on("side by side they are one RUN, \"as long as may be\"", """
                open 8 20; give 5 = 0; give 6 = 1; give 4 = 2; give 5 = 3; count 6 = 0; back 1 = 5; back 0 = 0; count 6 = 1; run 0 0 = 0
                run 0 1 = 11
                back 2 = 11; count 6 = 1; run 0 1 = 15; count 11 = 20; back 3 = 15; count 11 = 0; run 0 1 = 20
                """);
        Calls.on("with those above TOP too", "open 8 20; give 5 = 0; give 6 = 1; back 1 = 5; count 11 = 5; count 6 = 1; run 0 0 = 5;"
                + "run 0 1 = 15");
    }

    /** "no RUN: all QUICK rows are emptied .. and once more": whatever was in them. */
    private static void onceMore() {
        Calls.on("QUICK rows that are empty already", "open 9 16; give 17 = -1; count 8 = 2; give 10 = 0; count 8 = 3; give 7 = -1;"
                + "count 8 = 5; give 6 = 1; count 8 = 6; give 1 = -1; count 8 = 6");
        Calls.on("a QUICK row that has one", "open 9 16; give 10 = 0; give 4 = 1; back 1 = 10; count 8 = 2; count 9 = 1; give 6 = 2;"
                + "about 2 0 = 10; count 8 = 4; count 9 = 0");
        Calls.on("they are emptied even if that gives no room", "open 9 16; give 10 = 0; give 4 = 1; back 1 = 10; give 7 = -1;"
                + "count 9 = 0; count 8 = 4; run 0 0 = 10; run 0 1 = 6");
        Calls.on("with a RUN there is no second try", "open 9 16; give 4 = 0; back 0 = 0; count 8 = 1; give 12 = 1; about 1 0 = 4;"
                + "count 8 = 2; count 9 = 1");
    }

    /** No range is told for the i of run and list: "there is none: IndexOutOfBoundsException". */
    private static void negativePlaces() {
        String thrown = " ! IndexOutOfBoundsException;";
        Calls.on("run", "open 0 16; run -1 0" + thrown + "run -1 1" + thrown + "run -2147483648 0" + thrown + "give 16 = 0;"
                + "run -1 0" + thrown);
        Calls.on("list", "open 7 16; list 16 -1" + thrown + "list 0 -1" + thrown + "list 43 -1" + thrown + "list 16 -2147483648" + thrown);
        Calls.on("what comes ahead of it", "run -1 0 ! IllegalStateException; list 0 -1 ! IllegalStateException;"
                + "run -1 2 ! IllegalArgumentException;"
                + "list -1 -1 ! IllegalArgumentException; open 0 16; list 0 -1 ! UnsupportedOperationException;"
                + "run -1 -1 ! IllegalArgumentException");
        Calls.on("a negative block is \"a BLOCK that is not there\"", "back -1 ! IllegalStateException; open 0 16;"
                + "back -1 ! NoSuchElementException; about -1 0 ! NoSuchElementException; give 17 = -1; back -1 ! NoSuchElementException");
    }

    /**
     * "ROOMS that the latest worst came to": each when it is first come to, by an ask or by a BLOCK that is given back, though it
     * was not yet asked from when an ask without room ended the number of words.
     */
    private static void roomsThatWorstComesTo() {
        Calls.on("\"an ask that finds no room ends that number of words\"", "worst 0 4 8 = -1; count 12 = 6214; worst 2 4 8 = -1;"
                + "count 12 = 15724; worst 3 4 7 = -1; count 12 = 7042");
        Calls.on("the 20001st that is come to ends with -2, though an ask without room would come later", "worst 1 4 7 = -2;"
                + "count 12 = 20000; worst 1 4 8 = -2;"
                + "count 12 = 20000; worst 3 3 8 = -2; count 12 = 20000");
    }

    /** "200 BLOCKS are there": QUICK ones and what was given back on the stack are no BLOCKS, so that count 2 tells whether there are. */
    private static void blocksThatAreThere() {
        for (int form = 8; form <= 9; form++) {
            Calls calls = Calls.on("200 BLOCKS, form " + form, "open " + form + " 1024");
            for (int i = 0; i < 200; i++) {
                calls.then("give 2 = " + i);
            }
            calls.then("give 1 ! IndexOutOfBoundsException; back 0 = 0; count 2 = 199; give 1 = 200; about 200 0 = 400; count 2 = 200;"
                    + "give 1 ! IndexOutOfBoundsException;"
                    + "count 9 = " + (form == 9 ? 1 : 0) + "; count 3 = 201");
        }
    }

    /** Words behind W, behind the last PAGE "of 32 words" and behind the last GRAIN "of 4 words" are given to no BLOCK, but are in RUNS. */
    private static void wordsInNoPart() {
        Calls.on("behind W", "open 4 35; give 32 = 0; give 1 = -1; count 6 = 1; run 0 0 = 32; run 0 1 = 3; count 10 = 0");
        Calls.on("behind the last PAGE", "open 5 63; give 32 = 0; give 1 = -1; count 6 = 1; run 0 0 = 32; run 0 1 = 31; count 10 = 0;"
                + "count 8 = 2");
        Calls.on("behind the last GRAIN", "open 6 35; give 32 = 0; give 1 = -1; count 6 = 1; run 0 0 = 32; run 0 1 = 3; count 8 = 9");
        Calls.on("no PAGE at all", "open 5 31; count 10 = 0; give 1 = -1; give 33 = -1; count 8 = 0; run 0 1 = 31");
    }
}
