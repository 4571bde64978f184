/** Promises 3 and 4 in forms 7 to 9: lists of two levels, a stack, quick rows. */
public final class GiveRowsTest {
    public static void main(String[] args) {
        levels();
        stack();
        quick();
        Calls.end();
    }

    private static void levels() {
        Calls.on("levels", "open 7 100; give 5 = 0; give 6 = 1; give 5 = 2; give 7 = 3; give 5 = 4; about 4 0 = 23; count 8 = 0;"
                + "back 0 = 0; back 2 = 11; give 5 = 5; about 5 0 = 11; count 8 = 1; back 3 = 16; back 1 = 5;"
                + "give 6 = 6; about 6 0 = 16; count 8 = 1; give 1 = 7; about 7 0 = 22; count 8 = 2; give 12 = 8; about 8 0 = 28; count 8 = 2");
        Calls.on("levels, all RUNS of the LIST of n", "open 7 200; give 19 = 0; give 1 = 1; give 17 = 2; give 1 = 3; back 0 = 0; back 2 = 20;"
                + "count 8 = 0; give 18 = 4; about 4 0 = 0; count 8 = 2; give 18 = 5; about 5 0 = 38; count 8 = 3");
        Calls.on("levels, no room", "open 7 16; give 17 = -1; count 8 = 1; give 16 = 0; give 1 = -1; back 0 = 0; give 1024 = -1; count 8 = 2");
    }

    private static void stack() {
        Calls.on("stack", "open 8 20; give 5 = 0; give 6 = 1; give 4 = 2; count 11 = 15; give 6 = -1; count 8 = 4; back 1 = 5; count 11 = 15;"
                + "count 2 = 2; at 5 = -1; at 4 = 0; back 1 ! NoSuchElementException; about 1 0 ! NoSuchElementException;"
                + "give 5 = 3; about 3 0 = 15; count 11 = 20; back 3 = 15; count 11 = 15; back 2 = 11; count 11 = 5; back 0 = 0; count 11 = 0;"
                + "give 20 = 4; about 4 0 = 0; count 8 = 6");
        Calls.on("stack, RUNS are words without a BLOCK", "open 8 20; give 5 = 0; give 6 = 1; give 4 = 2; back 1 = 5; count 6 = 2;"
                + "run 0 0 = 5; run 0 1 = 6; run 1 0 = 15; run 1 1 = 5; count 7 = 6");
    }

    private static void quick() {
        Calls.on("quick", "open 9 20; give 8 = 0; give 3 = 1; give 3 = 2; give 6 = 3; count 8 = 4; back 1 = 8; back 2 = 11; count 9 = 2;"
                + "count 6 = 0; count 7 = 0; at 8 = -1; back 1 ! NoSuchElementException; give 3 = 4; about 4 0 = 11; count 8 = 4; count 9 = 1;"
                + "give 2 = 5; about 5 0 = 8; count 9 = 0; count 8 = 5; give 4 = -1; count 8 = 7; back 0 = 0; count 9 = 1; count 6 = 1");
        Calls.on("quick, 9 words are no QUICK one", "open 9 30; give 9 = 0; give 8 = 1; back 0 = 0; count 6 = 2; count 9 = 0; back 1 = 9;"
                + "count 9 = 1; count 6 = 2; give 25 = 2; about 2 0 = 0; count 9 = 0; count 8 = 5");
        Calls.on("quick, no room empties the rows too", "open 9 16; give 4 = 0; back 0 = 0; count 9 = 1; count 7 = 12; give 17 = -1; count 9 = 0;"
                + "count 6 = 1; count 7 = 16; count 8 = 3");
        Calls.on("quick, ahead of all", "open 9 30; give 4 = 0; give 4 = 1; give 9 = 2; back 0 = 0; back 1 = 4; give 3 = 3; about 3 0 = 17;"
                + "give 4 = 4; about 4 0 = 4; give 4 = 5; about 5 0 = 0; count 8 = 4; count 9 = 0");
    }
}
