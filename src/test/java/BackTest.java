/** Promise 4: back answers the PLACE, and a BLOCK that is not there is told. */
public final class BackTest {
    public static void main(String[] args) {
        for (int form = 0; form < 10; form++) {
            Calls.on("form " + form, "open " + form + " 256; give 32 = 0; give 32 = 1; give 32 = 2; back -1 ! NoSuchElementException;"
                    + "back 3 ! NoSuchElementException; back 2147483647 ! NoSuchElementException; back -2147483648 ! NoSuchElementException;"
                    + "count 2 = 3; back 1 = 32; count 2 = 2; count 4 = 64; count 5 = 64; back 1 ! NoSuchElementException; count 2 = 2;"
                    + "at 31 = 0; at 32 = -1; at 63 = -1; at 64 = 2; back 2 = 64; back 0 = 0; count 2 = 0; count 6 = 1; count 7 = 256;"
                    + "back 0 ! NoSuchElementException; give 32 = 3; back 3 = " + (form == 1 ? 96 : 0) + "; count 3 = 4");
        }
        Calls.on("in another ROOM", "open 0 16; give 1 = 0; open 0 16; back 0 ! NoSuchElementException");
        Calls.end();
    }
}
