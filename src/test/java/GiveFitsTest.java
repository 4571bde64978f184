/** Promises 3 and 4 in forms 0 to 3: first, next, best, worst. */
public final class GiveFitsTest {
    public static void main(String[] args) {
        first();
        next();
        best();
        greatest();
        Calls.end();
    }

    private static void first() {
        Calls.on("first", "open 0 20; give 4 = 0; give 4 = 1; give 4 = 2; give 4 = 3; count 8 = 4; back 0 = 0; back 2 = 8;"
                + "give 4 = 4; about 4 0 = 0; count 8 = 5; give 1 = 5; about 5 0 = 8; give 4 = 6; about 6 0 = 16; count 8 = 8;"
                + "give 4 = -1; count 8 = 9; count 3 = 7; give 3 = 7; about 7 0 = 9; count 6 = 0; give 1 = -1; count 8 = 10");
        Calls.on("RUNS grow together", "open 0 16; give 5 = 0; give 5 = 1; give 6 = 2; back 0 = 0; back 2 = 10; count 6 = 2;"
                + "back 1 = 5; count 6 = 1; give 16 = 3; about 3 0 = 0; count 6 = 0");
    }

    private static void next() {
        Calls.on("next, the RUN with the end counts from there on", "open 1 20; give 5 = 0; give 5 = 1; give 5 = 2;"
                + "back 2 = 10; back 1 = 5; count 8 = 3; give 4 = 3; about 3 0 = 15; count 8 = 4;"
                + "give 2 = 4; about 4 0 = 5; count 8 = 6; give 1 = 5; about 5 0 = 7; count 8 = 7");
        Calls.on("next, a RUN come to twice", "open 1 20; give 5 = 0; give 5 = 1; give 5 = 2; back 2 = 10; back 1 = 5;"
                + "give 8 = 3; about 3 0 = 5; count 8 = 5; give 8 = -1; count 8 = 6");
        Calls.on("next, the end is the ROOM's", "open 1 16; give 16 = 0; back 0 = 0; give 3 = 1; about 1 0 = 0; count 8 = 2");
        Calls.on("next, a RUN that ends at the end", "open 1 20; give 4 = 0; give 4 = 1; give 12 = 2; back 1 = 4; back 0 = 0;"
                + "back 2 = 8; give 20 = 3; back 3 = 0; give 8 = 4; give 4 = 5; give 8 = 6; back 4 = 0; give 1 = 7;"
                + "about 7 0 = 0; back 5 = 8; give 5 = 8; about 8 0 = 1; give 1 = 9; about 9 0 = 6");
        Calls.on("next, no room changes no end", "open 1 16; give 4 = 0; give 4 = 1; back 0 = 0; give 9 = -1; give 2 = 2; about 2 0 = 8");
        Calls.on("next, none at all", "open 1 16; give 8 = 0; give 8 = 1; back 0 = 0; give 9 = -1; count 8 = 3");
    }

    private static void best() {
        Calls.on("best", "open 2 32; give 4 = 0; give 4 = 1; give 6 = 2; give 4 = 3; give 4 = 4; give 10 = 5;"
                + "back 1 = 4; back 3 = 14; back 5 = 22; count 8 = 6; give 3 = 6; about 6 0 = 4; count 8 = 9;"
                + "give 1 = 7; about 7 0 = 7; count 8 = 12; give 5 = 8; about 8 0 = 22; count 8 = 14; give 11 = -1; count 8 = 16");
    }

    private static void greatest() {
        Calls.on("worst", "open 3 30; give 6 = 0; give 2 = 1; give 6 = 2; give 2 = 3; give 14 = 4; back 0 = 0; back 2 = 8;"
                + "give 2 = 5; about 5 0 = 0; give 2 = 6; about 6 0 = 8; give 5 = -1; count 8 = 11; give 4 = 7; about 7 0 = 2");
    }
}
