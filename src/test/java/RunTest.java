/** Promise 7: "RUN i by PLACE, part 0 its PLACE, 1 how many words; there is none: IndexOutOfBoundsException." */
public final class RunTest {
    public static void main(String[] args) {
        byPlace();
        wrongNumbers();
        noRun();
        whatIsNoBlocks();
        many();
        Calls.end();
    }

    private static void byPlace() {
        Calls.on("the first RUN, the last, the one behind the last", """
                open 0 20; run 0 0 = 0; run 0 1 = 20; run 1 0 ! IndexOutOfBoundsException; give 3 = 0; give 4 = 1; give 5 = 2; give 6 = 3
                run 0 0 = 18; run 0 1 = 2; run 1 1 ! IndexOutOfBoundsException; back 2 = 7; back 0 = 0
                run 0 0 = 0; run 0 1 = 3; run 1 0 = 7; run 1 1 = 5; run 2 0 = 18; run 2 1 = 2; run 3 0 ! IndexOutOfBoundsException
                run 3 1 ! IndexOutOfBoundsException
                back 1 = 3; run 0 0 = 0; run 0 1 = 12; run 1 0 = 18; run 1 1 = 2; run 2 0 ! IndexOutOfBoundsException
                """);
        for (int form = 0; form < 10; form++) {
            String full = "open " + form + " 128; give 32 = 0; give 32 = 1; give 32 = 2; give 32 = 3; run 0 0 ! IndexOutOfBoundsException;";
            Calls.on("\"as long as may be\": at the end, at the beginning, and what comes between, form " + form, full
                    + "back 3 = 96; run 0 0 = 96; run 0 1 = 32; back 0 = 0; run 0 0 = 0; run 0 1 = 32; run 1 0 = 96;"
                    + "run 2 0 ! IndexOutOfBoundsException;"
                    + "back 1 = 32; run 0 0 = 0; run 0 1 = 64; run 1 0 = 96; run 2 0 ! IndexOutOfBoundsException;"
                    + "back 2 = 64; run 0 0 = 0; run 0 1 = 128; run 1 1 ! IndexOutOfBoundsException");
            Calls.on("between two BLOCKS, form " + form, full + "back 1 = 32; run 0 0 = 32; run 0 1 = 32;"
                    + "run 1 0 ! IndexOutOfBoundsException;"
                    + "back 2 = 64; run 0 0 = 32; run 0 1 = 64; run 1 0 ! IndexOutOfBoundsException");
        }
    }

    private static void wrongNumbers() {
        String open = "open 0 16; give 1 = 0;";
        Calls.on("one beyond each end of part", open + "run 0 -1 ! IllegalArgumentException; run 0 2 ! IllegalArgumentException;"
                + "run 0 -2147483648 ! IllegalArgumentException; run 0 2147483647 ! IllegalArgumentException");
        Calls.on("part comes ahead of a RUN that is not there", open + "run 9 2 ! IllegalArgumentException;"
                + "run -1 -1 ! IllegalArgumentException");
        Calls.on("far behind the last", open + "run 1 0 ! IndexOutOfBoundsException; run 2147483647 1 ! IndexOutOfBoundsException");
    }

    private static void noRun() {
        for (int form = 0; form < 10; form++) {
            Calls.on("a ROOM without a RUN, form " + form, "open " + form + " 32; give 32 = 0; count 6 = 0; count 7 = 0;"
                    + "run 0 0 ! IndexOutOfBoundsException;"
                    + "run 0 1 ! IndexOutOfBoundsException; run 0 2 ! IllegalArgumentException; back 0 = 0; run 0 1 = 32");
        }
    }

    private static void whatIsNoBlocks() {
        Calls.on("words behind the PIECES, PAGES and GRAINS", "open 4 20; give 16 = 0; run 0 0 = 16; run 0 1 = 4; open 5 40; give 32 = 0;"
                + "run 0 0 = 32; run 0 1 = 8; open 6 19; give 16 = 0; run 0 0 = 16; run 0 1 = 3");
        Calls.on("words of a SPAN that were not asked are the BLOCK's", "open 4 32; give 17 = 0; run 0 0 ! IndexOutOfBoundsException;"
                + "open 6 16; give 13 = 0; count 6 = 0;"
                + "open 5 64; give 33 = 0; count 6 = 0");
        Calls.on("a QUICK one \"is no RUN\", and parts RUNS", "open 9 30; give 9 = 0; give 4 = 1; give 9 = 2; back 0 = 0; back 2 = 13;"
                + "back 1 = 9;"
                + "run 0 0 = 0; run 0 1 = 9; run 1 0 = 13; run 1 1 = 17; run 2 0 ! IndexOutOfBoundsException");
    }

    /** 200 BLOCKS of one word, of which each second is given back. */
    private static void many() {
        Calls calls = Calls.on("101 RUNS", "open 0 1024");
        for (int i = 0; i < 200; i++) {
            calls.then("give 1 = " + i);
        }
        for (int i = 0; i < 200; i += 2) {
            calls.then("back " + i + " = " + i);
        }
        calls.then("count 6 = 101; run 0 0 = 0; run 0 1 = 1; run 99 0 = 198; run 99 1 = 1; run 100 0 = 200; run 100 1 = 824;"
                + "run 101 0 ! IndexOutOfBoundsException");
    }
}
