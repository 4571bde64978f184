/** Promises 3 and 4 in forms 0 to 3: first, next, best, worst. */
public final class GiveFitsTest {
    public static void main(String[] args) {
        first();
        next();
        nextAtTheEnd();
        best();
        greatest();
        emptyAndFull();
        Calls.end();
    }

    private static void first() {
        Calls.on("first", "open 0 20; give 4 = 0; give 4 = 1; give 4 = 2; give 4 = 3; count 8 = 4; back 0 = 0; back 2 = 8;"
                + "give 4 = 4; about 4 0 = 0; count 8 = 5; give 1 = 5; about 5 0 = 8; give 4 = 6; about 6 0 = 16; count 8 = 8;"
                + "give 4 = -1; count 8 = 9; count 3 = 7; give 3 = 7; about 7 0 = 9; count 6 = 0; give 1 = -1; count 8 = 10");
        Calls.on("RUNS grow together", "open 0 16; give 5 = 0; give 5 = 1; give 6 = 2; back 0 = 0; back 2 = 10; count 6 = 2;"
                + "back 1 = 5; count 6 = 1; give 16 = 3; about 3 0 = 0; count 6 = 0");
        Calls.on("\"the first RUN by PLACE that has n words\": one word too few, just enough", """
                open 0 16; give 3 = 0; give 1 = 1; give 4 = 2; give 1 = 3; back 2 = 4; back 0 = 0
                give 4 = 4; about 4 0 = 4; give 4 = 5; about 5 0 = 9; give 3 = 6; about 6 0 = 0
                """);
    }

    private static void next() {
        Calls.on("\"the RUN in which that is counts from there on\"", "open 1 20; give 5 = 0; give 5 = 1; give 5 = 2;"
                + "back 2 = 10; back 1 = 5; count 8 = 3; give 4 = 3; about 3 0 = 15; count 8 = 4;"
                + "give 2 = 4; about 4 0 = 5; count 8 = 6; give 1 = 5; about 5 0 = 7; count 8 = 7");
        Calls.on("\"the RUN with the end in it counts twice, if it is come to twice\"", "open 1 20; give 5 = 0; give 5 = 1; give 5 = 2;"
                + "back 2 = 10; back 1 = 5; give 8 = 3; about 3 0 = 5; count 8 = 5; give 8 = -1; count 8 = 6");
        Calls.on("\"0 at first\"", "open 1 16; give 16 = 0; about 0 0 = 0; count 8 = 1");
        Calls.on("\"from the end of the BLOCK given last on\", which was given back", """
                open 1 16; give 4 = 0; back 0 = 0; give 4 = 1; about 1 0 = 4; count 8 = 2
                give 9 = -1; count 8 = 4; give 8 = 2; about 2 0 = 8; give 4 = 3; about 3 0 = 0; count 8 = 6
                """);
        Calls.on("no room changes no end", "open 1 16; give 4 = 0; give 4 = 1; back 0 = 0; give 9 = -1; give 2 = 2; about 2 0 = 8");
    }

    private static void nextAtTheEnd() {
        Calls.on("\"then of those that begin ahead of that end, from the beginning\": the first of two", """
                open 1 16; give 4 = 0; give 4 = 1; give 4 = 2; give 4 = 3; back 2 = 8; back 0 = 0
                give 4 = 4; about 4 0 = 0; count 8 = 5; give 4 = 5; about 5 0 = 8; count 8 = 6; give 1 = -1; count 8 = 6
                """);
        Calls.on("the end is the ROOM's: no RUN is from there on", "open 1 16; give 16 = 0; back 0 = 0; give 3 = 1; about 1 0 = 0;"
                + "count 8 = 2");
        Calls.on("a RUN that ends at the end is not from there on", """
                open 1 16; give 4 = 0; give 4 = 1; back 0 = 0; give 8 = 2; back 1 = 4; give 2 = 3; about 3 0 = 0; count 8 = 4
                back 2 = 8; give 14 = 4; about 4 0 = 2; count 8 = 5
                """);
        Calls.on("a RUN that begins at the end is not ahead of it", "open 1 16; give 4 = 0; give 13 = -1; count 8 = 2");
        Calls.on("with the end in a RUN the whole of it is there in the second round", "open 1 16; give 4 = 0; back 0 = 0; give 13 = 1;"
                + "about 1 0 = 0; count 8 = 3");
        Calls.on("ahead of the end and behind it", "open 1 20; give 4 = 0; give 4 = 1; give 12 = 2; back 1 = 4; back 0 = 0;"
                + "back 2 = 8; give 20 = 3; back 3 = 0; give 8 = 4; give 4 = 5; give 8 = 6; back 4 = 0; give 1 = 7;"
                + "about 7 0 = 0; back 5 = 8; give 5 = 8; about 8 0 = 1; give 1 = 9; about 9 0 = 6");
        Calls.on("none at all", "open 1 16; give 8 = 0; give 8 = 1; back 0 = 0; give 9 = -1; count 8 = 3");
    }

    private static void best() {
        Calls.on("best", "open 2 32; give 4 = 0; give 4 = 1; give 6 = 2; give 4 = 3; give 4 = 4; give 10 = 5;"
                + "back 1 = 4; back 3 = 14; back 5 = 22; count 8 = 6; give 3 = 6; about 6 0 = 4; count 8 = 9;"
                + "give 1 = 7; about 7 0 = 7; count 8 = 12; give 5 = 8; about 8 0 = 22; count 8 = 14; give 11 = -1; count 8 = 16");
        Calls.on("\"2 best: the smallest that has n\": not one that has n - 1", """
                open 2 20; give 4 = 0; give 1 = 1; give 3 = 2; give 1 = 3; give 5 = 4; give 1 = 5; back 0 = 0; back 2 = 5; back 4 = 9
                give 4 = 6; about 6 0 = 0; give 4 = 7; about 7 0 = 9; give 4 = 8; about 8 0 = 15; give 4 = -1; give 3 = 9; about 9 0 = 5
                """);
        Calls.on("\"(the first of several)\", best", """
                open 2 16; give 3 = 0; give 1 = 1; give 3 = 2; give 1 = 3; give 3 = 4; give 5 = 5; back 4 = 8; back 2 = 4; back 0 = 0
                give 2 = 6; about 6 0 = 0; give 2 = 7; about 7 0 = 4; give 2 = 8; about 8 0 = 8; give 1 = 9; about 9 0 = 2
                """);
    }

    private static void greatest() {
        Calls.on("worst", "open 3 30; give 6 = 0; give 2 = 1; give 6 = 2; give 2 = 3; give 14 = 4; back 0 = 0; back 2 = 8;"
                + "give 2 = 5; about 5 0 = 0; give 2 = 6; about 6 0 = 8; give 5 = -1; count 8 = 11; give 4 = 7; about 7 0 = 2");
        Calls.on("\"3 worst: the greatest\", though another has just n", """
                open 3 16; give 3 = 0; give 1 = 1; give 5 = 2; give 1 = 3; give 6 = 4; back 0 = 0; back 2 = 4
                give 3 = 5; about 5 0 = 4; give 3 = 6; about 6 0 = 0; give 3 = -1; give 2 = 7; about 7 0 = 7
                """);
        Calls.on("\"(the first of several)\", worst", """
                open 3 16; give 3 = 0; give 1 = 1; give 3 = 2; give 1 = 3; give 3 = 4; give 5 = 5; back 4 = 8; back 2 = 4; back 0 = 0
                give 1 = 6; about 6 0 = 0; give 1 = 7; about 7 0 = 4; give 1 = 8; about 8 0 = 8; give 1 = 9; about 9 0 = 1
                """);
    }

    /** An empty ROOM gives all its words and not one more; a full one gives none, and takes one BLOCK back. */
    private static void emptyAndFull() {
        for (int form = 0; form < 4; form++) {
            for (int words : new int[] {16, 1023}) {
                Calls.on("empty and full, form " + form, "open " + form + " " + words + "; give " + (words + 1) + " = -1; count 3 = 0;"
                        + "give " + words
                        + " = 0; about 0 0 = 0; about 0 1 = " + words + "; count 6 = 0; give 1 = -1; give " + words + " = -1; count 2 = 1;"
                        + "back 0 = 0; count 7 = " + words + "; give " + words + " = 1; about 1 0 = 0");
            }
            Calls.on("the last word, form " + form, "open " + form + " 16; give 15 = 0; give 2 = -1; give 1 = 1; about 1 0 = 15;"
                    + "give 1 = -1;"
                    + "back 1 = 15; give 1 = 2; about 2 0 = 15; back 0 = 0; give 16 = -1; give 15 = 3; about 3 0 = 0");
        }
    }
}
