/** Promise 8: the LISTS of form 7. */
public final class ListTest {
    public static void main(String[] args) {
        Calls.on("order", "open 7 100; list 26 0 = 0; list 26 1 ! IndexOutOfBoundsException; list 25 0 ! IndexOutOfBoundsException;"
                + "give 5 = 0; list 26 0 ! IndexOutOfBoundsException; list 25 0 = 5; give 6 = 1; give 5 = 2; give 7 = 3; give 5 = 4; list 24 0 = 28;"
                + "back 0 = 0; back 2 = 11; list 9 0 = 11; list 9 1 = 0; list 9 2 ! IndexOutOfBoundsException; give 5 = 5; list 9 0 = 0;"
                + "list 9 1 ! IndexOutOfBoundsException; back 3 = 16; list 11 0 = 16; back 1 = 5; list 9 0 ! IndexOutOfBoundsException;"
                + "list 13 0 = 0; give 6 = 6; list 11 0 ! IndexOutOfBoundsException; list 0 0 = 22");
        Calls.on("what is left comes to the beginning", "open 7 64; give 17 = 0; give 1 = 1; give 19 = 2; give 1 = 3; back 2 = 18; back 0 = 0;"
                + "list 16 0 = 0; list 16 1 = 18; give 18 = 4; about 4 0 = 18; give 1 = 5; about 5 0 = 36; give 1 = 6; about 6 0 = 0; list 16 0 = 1;"
                + "back 5 = 36; list 0 0 = 36");
        Calls.on("by how many words", "open 7 1024; list 40 0 = 0; open 7 1023; list 39 0 = 0; open 7 16; list 16 0 = 0; open 7 20; list 17 0 = 0;"
                + "open 7 31; list 19 0 = 0; give 30 = 0; list 0 0 = 30; back 0 = 0; give 29 = 1; list 4 0 = 29; back 1 = 0; give 28 = 2; list 6 0 = 28;"
                + "back 2 = 0; give 31 = 3; list 0 0 ! IndexOutOfBoundsException");
        Calls.on("wrong numbers", "open 7 16; list -1 0 ! IllegalArgumentException; list 44 0 ! IllegalArgumentException;"
                + "list 16 -1 ! IndexOutOfBoundsException; list 16 2147483647 ! IndexOutOfBoundsException; list 43 0 ! IndexOutOfBoundsException;"
                + "list 2147483647 0 ! IllegalArgumentException; list -2147483648 0 ! IllegalArgumentException");
        for (int form = 0; form < 10; form++) {
            if (form != 7) {
                Calls.on("form " + form, "open " + form + " 16; list 16 0 ! UnsupportedOperationException; list 0 5 ! UnsupportedOperationException;"
                        + "list 44 0 ! IllegalArgumentException; list -1 0 ! IllegalArgumentException");
            }
        }
        Calls.end();
    }
}
