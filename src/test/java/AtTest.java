/** Promise 6: the BLOCK that has a word. */
public final class AtTest {
    public static void main(String[] args) {
        Calls.on("edges", "open 0 20; at 0 = -1; at 19 = -1; at 20 ! IllegalArgumentException; at -1 ! IllegalArgumentException;"
                + "at 1023 ! IllegalArgumentException; at 2147483647 ! IllegalArgumentException; at -2147483648 ! IllegalArgumentException;"
                + "give 3 = 0; give 17 = 1; at 0 = 0; at 2 = 0; at 3 = 1; at 19 = 1; back 0 = 0; at 2 = -1; at 3 = 1");
        Calls.on("all words of a SPAN", "open 4 64; give 5 = 0; at 4 = 0; at 7 = 0; at 8 = -1; open 6 64; give 9 = 0; at 11 = 0; at 12 = -1;"
                + "open 5 96; give 33 = 0; at 63 = 0; at 64 = -1");
        Calls.on("QUICK ones are none", "open 9 20; give 8 = 0; give 8 = 1; back 0 = 0; at 0 = -1; at 7 = -1; at 8 = 1; give 8 = 2; at 0 = 2");
        Calls.on("given back on the stack", "open 8 20; give 8 = 0; give 8 = 1; back 0 = 0; at 0 = -1; at 7 = -1; at 8 = 1; at 16 = -1");
        Calls.on("most words", "open 0 1024; at 1023 = -1; at 1024 ! IllegalArgumentException; give 1024 = 0; at 1023 = 0");
        Calls.end();
    }
}
