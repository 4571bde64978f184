/** Promise 10: the counts. LOOKED has a test of its own. */
public final class CountTest {
    public static void main(String[] args) {
        wrongNumbers();
        for (int form = 0; form < 10; form++) {
            emptyRoom(form);
            inUse(form);
            fullRoom(form);
        }
        askedAndSpans();
        roomsOfWorst();
        Calls.end();
    }

    private static void wrongNumbers() {
        String wrong = "count -1 ! IllegalArgumentException; count 13 ! IllegalArgumentException;"
                + "count 2147483647 ! IllegalArgumentException;"
                + "count -2147483648 ! IllegalArgumentException;";
        Calls.on("one beyond each end of what", wrong + "open 0 16;" + wrong + "give 16 = 0;" + wrong);
    }

    /** The counts 0 to 12 as they are due, one after another. */
    private static String counts(int... due) {
        StringBuilder text = new StringBuilder();
        for (int what = 0; what < due.length; what++) {
            text.append("count ").append(what).append(" = ").append(due[what]).append(';');
        }
        return text.toString();
    }

    private static void emptyRoom(int form) {
        int parts = form == 4 ? 1 : form == 5 ? 3 : 0;
        String empty = counts(form, 100, 0, 0, 0, 0, 1, 100, 0, 0, parts, 0, 0);
        Calls.on("an empty ROOM, form " + form, "open " + form + " 100;" + empty);
    }

    /** After BLOCKS of 3, 9 and 5 words, of which the first is given back. */
    private static void inUse(int form) {
        int[] spans = {14, 14, 14, 14, 24, 24, 20, 14, 14, 14};
        int[] runs = {2, 2, 2, 2, 2, 3, 2, 2, 2, 1};
        int[] greatest = {83, 83, 83, 83, 68, 32, 72, 83, 83, 83};
        int[] looked = {3, 3, 3, 3, 8, 6, 5, 0, 3, 3};
        int[] parts = {0, 0, 0, 0, 2, 1, 0, 0, 0, 0};
        Calls.on("in use, form " + form, "open " + form + " 100; give 3 = 0; give 9 = 1; give 5 = 2; back 0 = 0;"
                + counts(form, 100, 2, 3, 14, spans[form], runs[form], greatest[form], looked[form], form == 9 ? 1 : 0, parts[form], form == 8 ? 17 : 0, 0));
    }

    private static void fullRoom(int form) {
        int[] looked = {2, 2, 2, 2, 2, 4, 3, 1, 2, 2};
        String full = "open " + form + " 64; give 32 = 0; give 32 = 1;";
        int top = form == 8 ? 64 : 0;
        Calls.on("a full ROOM, form " + form, full + counts(form, 64, 2, 2, 64, 64, 0, 0, looked[form], 0, 0, top, 0));
        Calls.on("a full ROOM asked for more, form " + form, full + "give 1 = -1; count 2 = 2; count 3 = 2; count 4 = 64; count 5 = 64;"
                + "count 6 = 0; count 7 = 0");
        int parts = form == 4 ? 1 : form == 5 ? 2 : 0;
        Calls.on("a full ROOM that is empty again, form " + form, full + "back 0 = 0; back 1 = 32;"
                + counts(form, 64, 0, 2, 0, 0, 1, 64, looked[form], 0, parts, 0, 0));
    }

    private static void askedAndSpans() {
        Calls.on("no room is neither ASKED nor a NUMBER", "open 0 16; give 10 = 0; give 7 = -1; count 3 = 1; count 4 = 10; count 5 = 10;"
                + "back 0 = 0; count 3 = 1; count 4 = 0; count 5 = 0");
        Calls.on("SPANS are more than was ASKED", "open 4 64; give 33 = 0; count 4 = 33; count 5 = 64; open 5 64; give 1 = 0; give 17 = 1;"
                + "count 4 = 18; count 5 = 33;"
                + "open 6 64; give 1 = 0; give 61 = -1; give 5 = 1; count 4 = 6; count 5 = 12");
        Calls.on("QUICK ones are no BLOCKS", "open 9 16; give 8 = 0; give 8 = 1; back 0 = 0; count 2 = 1; count 4 = 8; count 5 = 8;"
                + "count 6 = 0; count 9 = 1;"
                + "back 1 = 8; count 2 = 0; count 4 = 0; count 5 = 0; count 6 = 0; count 7 = 0; count 9 = 2");
        Calls.on("what was given back on the stack is no BLOCK", "open 8 16; give 8 = 0; give 8 = 1; back 0 = 0; count 2 = 1; count 4 = 8;"
                + "count 5 = 8; count 11 = 16");
    }

    private static void roomsOfWorst() {
        Calls.on("\"0 at first\"", "count 12 = 0; open 0 16; give 1 = 0; count 12 = 0");
        Calls.on("\"the latest worst\"", "worst 0 1 3 = 3; count 12 = 8; worst 0 1 2 = 2; count 12 = 4; worst 1 1 1 = 1; count 12 = 3");
        Calls.on("a worst that is refused is none", "worst 0 1 3 = 3; worst 0 1 9 ! IllegalArgumentException;"
                + "worst 4 1 1 ! IllegalArgumentException; count 12 = 8");
        Calls.on("neither open nor give changes it", "worst 0 1 3 = 3; open 3 16; give 1 = 0; back 0 = 0; count 12 = 8; count 8 = 1;"
                + "count 2 = 0; count 0 = 3");
        // With 4 words: the empty ROOM; of words 0 to 2 each set of single BLOCKS but the empty one (7); and BLOCKS of two words:
        // at 0 alone and with word 2, at 1 alone and with word 0, at 2 alone, with word 0 and with word 1 (7).
        Calls.on("\"with the last number of words\", not with those that were not enough", "worst 0 2 3 = 4; count 12 = 15");
    }
}
