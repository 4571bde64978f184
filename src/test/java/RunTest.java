/** Promise 7: the RUNS by PLACE. */
public final class RunTest {
    public static void main(String[] args) {
        Calls.on("RUNS", "open 0 20; run 0 0 = 0; run 0 1 = 20; run 1 0 ! IndexOutOfBoundsException; give 3 = 0; give 4 = 1; give 5 = 2; give 6 = 3;"
                + "run 0 0 = 18; run 0 1 = 2; back 2 = 7; back 0 = 0; run 0 0 = 0; run 0 1 = 3; run 1 0 = 7; run 1 1 = 5; run 2 0 = 18; run 2 1 = 2;"
                + "run 3 0 ! IndexOutOfBoundsException; run 3 1 ! IndexOutOfBoundsException; run -1 0 ! IndexOutOfBoundsException;"
                + "run 2147483647 1 ! IndexOutOfBoundsException; run -2147483648 1 ! IndexOutOfBoundsException;"
                + "run 0 2 ! IllegalArgumentException; run 0 -1 ! IllegalArgumentException; run 9 2 ! IllegalArgumentException;"
                + "back 1 = 3; run 0 1 = 12; run 1 0 = 18");
        Calls.on("no RUN", "open 0 16; give 16 = 0; run 0 0 ! IndexOutOfBoundsException");
        Calls.on("words behind the PIECES, PAGES and GRAINS", "open 4 20; give 16 = 0; run 0 0 = 16; run 0 1 = 4; open 5 40; give 32 = 0;"
                + "run 0 0 = 32; run 0 1 = 8; open 6 19; give 16 = 0; run 0 0 = 16; run 0 1 = 3");
        Calls.on("QUICK ones part RUNS", "open 9 30; give 9 = 0; give 4 = 1; give 9 = 2; back 0 = 0; back 2 = 13; back 1 = 9;"
                + "run 0 0 = 0; run 0 1 = 9; run 1 0 = 13; run 1 1 = 17; run 2 0 ! IndexOutOfBoundsException");
        many();
        Calls.end();
    }

    /** 200 words with a RUN between each two. */
    private static void many() {
        Calls calls = Calls.on("201 RUNS", "open 0 1024; give 1 = 0");
        for (int i = 1; i < 200; i++) {
            calls.then("give 1 = " + i);
        }
        for (int i = 0; i < 200; i += 2) {
            calls.then("back " + i + " = " + i);
        }
        calls.then("count 6 = 101; run 0 0 = 0; run 0 1 = 1; run 99 0 = 198; run 99 1 = 1; run 100 0 = 200; run 100 1 = 824;"
                + "run 101 0 ! IndexOutOfBoundsException");
    }
}
