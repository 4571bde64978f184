/** Promise 4: "The BLOCK is given back. Answers its PLACE." What else each form does then, the Give tests tell. */
public final class BackTest {
    public static void main(String[] args) {
        for (int form = 0; form < 10; form++) {
            Calls.on("form " + form, "open " + form + " 256; give 32 = 0; give 32 = 1; give 32 = 2; back -1 ! NoSuchElementException;"
                    + "back 3 ! NoSuchElementException; back 2147483647 ! NoSuchElementException;"
                    + "back -2147483648 ! NoSuchElementException;"
                    + "count 2 = 3; back 1 = 32; count 2 = 2; count 4 = 64; count 5 = 64; back 1 ! NoSuchElementException; count 2 = 2;"
                    + "at 31 = 0; at 32 = -1; at 63 = -1; at 64 = 2; back 2 = 64; back 0 = 0; count 2 = 0; count 6 = 1; count 7 = 256;"
                    + "back 0 ! NoSuchElementException; give 32 = 3; back 3 = " + (form == 1 ? 96 : 0) + "; count 3 = 4");
            notThere(form);
            inAnyOrder(form);
        }
        Calls.end();
    }

    private static void notThere(int form) {
        String open = "open " + form + " 32;";
        Calls.on("never was given, form " + form, open + "back 0 ! NoSuchElementException; give 32 = 0; back 1 ! NoSuchElementException;"
                + "back -1 ! NoSuchElementException; give 1 = -1; back -1 ! NoSuchElementException; back 1 ! NoSuchElementException;"
                + "back 0 = 0");
        Calls.on("was given back before, form " + form, open + "give 8 = 0; give 8 = 1; back 0 = 0; back 0 ! NoSuchElementException;"
                + "back 1 = 8;"
                + "back 1 ! NoSuchElementException; back 0 ! NoSuchElementException; count 2 = 0; count 3 = 2");
        Calls.on("\"never twice\": a new BLOCK in the same words has a new NUMBER, form " + form, open + "give 32 = 0; back 0 = 0;"
                + "give 32 = 1; at 0 = 1;"
                + "back 0 ! NoSuchElementException; back 1 = 0; give 32 = 2");
        Calls.on("of a ROOM that is no more, form " + form, open + "give 8 = 0; give 8 = 1;" + open + "back 0 ! NoSuchElementException;"
                + "back 1 ! NoSuchElementException; give 8 = 0; back 1 ! NoSuchElementException; back 0 = 0");
    }

    /** Four BLOCKS of 8 words that fill a ROOM of 32, given back in each order: the ROOM is empty again, and gives all its words. */
    private static void inAnyOrder(int form) {
        for (int order = 0; order < 256; order++) {
            int[] blocks = {order & 3, order >> 2 & 3, order >> 4 & 3, order >> 6};
            if (allFour(blocks)) {
                Calls calls = Calls.on("given back in order " + order + ", form " + form, "open " + form + " 32; give 8 = 0; give 8 = 1;"
                        + "give 8 = 2; give 8 = 3");
                for (int block : blocks) {
                    calls.then("back " + block + " = " + 8 * block + "; at " + 8 * block + " = -1");
                }
                calls.then("count 2 = 0; count 4 = 0; count 5 = 0; count 9 = " + (form == 9 ? 4 : 0) + "; count 11 = 0; give 32 = 4;"
                        + "about 4 0 = 0; count 9 = 0");
            }
        }
    }

    private static boolean allFour(int[] blocks) {
        int seen = 0;
        for (int block : blocks) {
            seen |= 1 << block;
        }
        return seen == 15;
    }
}
