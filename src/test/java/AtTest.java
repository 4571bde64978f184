/** Promise 6: "The BLOCK that has a word, 0 .. words - 1 (without ROOM 0 .. 1023); -1 none". */
public final class AtTest {
    public static void main(String[] args) {
        for (int form = 0; form < 10; form++) {
            for (int words : new int[] {16, 20, 1023, 1024}) {
                edges(form, words);
            }
        }
        Calls.on("without ROOM", "at 0 ! IllegalStateException; at 1023 ! IllegalStateException; at -1 ! IllegalArgumentException;"
                + "at 1024 ! IllegalArgumentException");
        Calls.on("the first and the last word of a BLOCK", "open 0 20; give 3 = 0; give 17 = 1; at 0 = 0; at 2 = 0; at 3 = 1; at 19 = 1;"
                + "back 0 = 0; at 2 = -1; at 3 = 1");
        Calls.on("all words of a SPAN", "open 4 64; give 5 = 0; at 4 = 0; at 7 = 0; at 8 = -1; open 6 64; give 9 = 0; at 11 = 0;"
                + "at 12 = -1;"
                + "open 5 96; give 33 = 0; at 63 = 0; at 64 = -1");
        Calls.on("\"QUICK ones .. are none\"", "open 9 20; give 8 = 0; give 8 = 1; back 0 = 0; at 0 = -1; at 7 = -1; at 8 = 1; give 8 = 2;"
                + "at 0 = 2; at 7 = 2");
        Calls.on("\"what was given back on the stack\" is none", """
                open 8 20; give 8 = 0; give 8 = 1; back 0 = 0; count 11 = 16; at 0 = -1; at 7 = -1; at 8 = 1; at 15 = 1; at 16 = -1
                back 1 = 8; count 11 = 0; at 0 = -1; at 8 = -1; give 20 = 2; at 0 = 2; at 19 = 2
                """);
        Calls.on("most words", "open 0 1024; at 1023 = -1; give 1024 = 0; at 0 = 0; at 1023 = 0; at 1024 ! IllegalArgumentException");
        Calls.end();
    }

    private static void edges(int form, int words) {
        Calls.on("word 0, words - 1 and one beyond each end, form " + form, "open " + form + " " + words + "; at 0 = -1;"
                + "at " + (words - 1) + " = -1;"
                + "at -1 ! IllegalArgumentException; at " + words + " ! IllegalArgumentException; at 1024 ! IllegalArgumentException;"
                + "at 2147483647 ! IllegalArgumentException; at -2147483648 ! IllegalArgumentException");
    }
}
