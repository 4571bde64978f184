/** Promise 10, what 8: LOOKED of each form, after gives that find room at once, late, and not at all. */
public final class LookedTest {
    public static void main(String[] args) {
        fits();
        next();
        allRuns();
        halves();
        pages();
        grains();
        levels();
        stack();
        quick();
        Calls.end();
    }

    private static void fits() {
        Calls.on("first: \"how many RUNS (0 to 3\" .. \"were come to by give, in all\"", """
                open 0 20; give 4 = 0; give 4 = 1; give 4 = 2; give 4 = 3; count 8 = 4; back 0 = 0; back 2 = 8; count 8 = 4
                give 4 = 4; count 8 = 5; give 2 = 5; count 8 = 6; give 4 = 6; count 8 = 8
                give 3 = -1; count 8 = 9; give 2 = 7; count 8 = 10; give 1 = -1; count 8 = 10
                """);
    }

    private static void next() {
        Calls.on("next", """
                open 1 20; give 4 = 0; give 4 = 1; give 4 = 2; give 4 = 3; count 8 = 4; back 0 = 0; back 2 = 8
                give 1 = 4; count 8 = 5; give 4 = 5; about 5 0 = 0; count 8 = 7
                give 5 = -1; count 8 = 9; give 4 = 6; count 8 = 10; give 3 = 7; count 8 = 11; give 1 = -1; count 8 = 11
                """);
        Calls.on("next: \"counts twice, if it is come to twice\", and once if not", """
                open 1 16; give 4 = 0; back 0 = 0; count 8 = 1; give 17 = -1; count 8 = 3; give 2 = 1; about 1 0 = 4; count 8 = 4
                """);
    }

    private static void allRuns() {
        for (int form = 2; form <= 3; form++) {
            Calls.on("\"2, 3 all\", form " + form, "open " + form + """
                     20; give 4 = 0; give 4 = 1; give 4 = 2; give 4 = 3; count 8 = 4; back 0 = 0; back 2 = 8
                    give 4 = 4; about 4 0 = 0; count 8 = 7; give 3 = 5; about 5 0 = 8; count 8 = 9; give 4 = 6; about 6 0 = 16; count 8 = 11
                    give 2 = -1; count 8 = 12; give 1 = 7; count 8 = 13; give 1 = -1; count 8 = 13
                    """);
        }
    }

    private static void halves() {
        Calls.on("\"PIECES (4: all free ones)\"", """
                open 4 16; give 4 = 0; count 8 = 1; give 4 = 1; count 8 = 3; give 8 = 2; count 8 = 4; give 1 = -1; count 8 = 4
                back 1 = 4; give 8 = -1; count 8 = 5; give 1024 = -1; count 8 = 6; give 1 = 3; count 8 = 7; give 4 = -1; count 8 = 9
                """);
    }

    private static void pages() {
        Calls.on("\"PAGES (5: those of that SPAN that are come to, then all from the first on up to the free one\"", """
                open 5 128; give 16 = 0; count 8 = 1; give 16 = 1; count 8 = 2; give 16 = 2; about 2 0 = 32; count 8 = 5
                give 32 = 3; about 3 0 = 64; count 8 = 8; give 20 = 4; about 4 0 = 96; count 8 = 13
                give 16 = 5; about 5 0 = 48; count 8 = 15
                """);
        Calls.on("\"or the last of the row, that is found\"", """
                open 5 160; give 1 = 0; give 64 = 1; about 1 0 = 32; count 8 = 4; give 33 = 2; about 2 0 = 96; count 8 = 9
                back 1 = 32; give 40 = 3; about 3 0 = 32; count 8 = 12
                """);
        Calls.on("\"all, if none is\"", """
                open 5 100; give 1 = 0; count 8 = 1; give 65 = -1; count 8 = 4; give 97 = -1; count 8 = 7; give 1024 = -1; count 8 = 10
                give 64 = 1; count 8 = 13; give 2 = -1; count 8 = 16; give 32 = -1; count 8 = 19
                """);
        Calls.on("those of that SPAN, then all: none is", "open 5 64; give 32 = 0; give 32 = 1; count 8 = 4; give 32 = -1; count 8 = 8");
    }

    private static void grains() {
        Calls.on("\"GRAINS at which it was tried (6: multiples of A from which on there are g)\"", """
                open 6 64; give 16 = 0; count 8 = 1; give 1 = 1; about 1 0 = 16; count 8 = 6; give 8 = 2; about 2 0 = 24; count 8 = 10
                give 17 = 3; about 3 0 = 32; count 8 = 12; give 16 = -1; count 8 = 16; give 24 = -1; count 8 = 18
                give 36 = -1; count 8 = 19; give 65 = -1; count 8 = 19
                """);
    }

    private static void levels() {
        Calls.on("\"RUNS whose words were looked at (7)\"", """
                open 7 64; give 19 = 0; give 1 = 1; give 16 = 2; give 1 = 3; count 8 = 0; back 0 = 0; back 2 = 20; list 16 0 = 20
                list 16 1 = 0
                give 16 = 4; about 4 0 = 20; count 8 = 1; back 4 = 20; give 17 = 5; about 5 0 = 0; count 8 = 3
                give 18 = 6; about 6 0 = 37; count 8 = 4; give 19 = -1; count 8 = 5; give 64 = -1; count 8 = 5
                """);
    }

    private static void stack() {
        Calls.on("\"1 (8)\", with room and without", "open 8 16; give 16 = 0; count 8 = 1; give 1 = -1; count 8 = 2; back 0 = 0;"
                + "count 8 = 2;"
                + "give 17 = -1; count 8 = 3; give 1 = 1; give 1 = 2; count 8 = 5");
    }

    private static void quick() {
        Calls.on("\"9 without QUICK ones\"", "open 9 24; give 8 = 0; give 8 = 1; count 8 = 2; back 0 = 0; give 8 = 2; about 2 0 = 0;"
                + "count 8 = 2;"
                + "back 2 = 0; give 7 = 3; about 3 0 = 16; count 8 = 3");
        Calls.on("\"what a second try comes to counts too\"", """
                open 9 24; give 8 = 0; give 8 = 1; back 0 = 0; back 1 = 8; count 8 = 2; give 9 = 2; about 2 0 = 0; count 8 = 4
                give 16 = -1; count 8 = 6; give 15 = 3; count 8 = 7; give 1 = -1; count 8 = 7
                """);
        Calls.on("the second try comes to several", """
                open 9 30; give 4 = 0; give 9 = 1; give 4 = 2; give 9 = 3; count 8 = 4; back 0 = 0; back 2 = 13; count 6 = 1
                give 5 = -1; count 8 = 8; count 6 = 3; give 4 = 4; about 4 0 = 0; count 8 = 9
                """);
    }
}
