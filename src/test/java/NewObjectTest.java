/** Promise 1: a new object has no ROOM, and says so in the order that the document tells. */
public final class NewObjectTest {
    public static void main(String[] args) {
        Calls.on("counts", "count 0 = -1; count 1 = 0; count 2 = 0; count 3 = 0; count 4 = 0; count 5 = 0;"
                + "count 6 = 0; count 7 = 0; count 8 = 0; count 9 = 0; count 10 = 0; count 11 = 0; count 12 = 0");
        Calls.on("no ROOM", "give 1 ! IllegalStateException; give 1024 ! IllegalStateException;"
                + "back 0 ! IllegalStateException; back -1 ! IllegalStateException;"
                + "about 0 0 ! IllegalStateException; about -5 2 ! IllegalStateException;"
                + "at 0 ! IllegalStateException; at 1023 ! IllegalStateException;"
                + "run 0 0 ! IllegalStateException; run -1 1 ! IllegalStateException;"
                + "list 0 0 ! IllegalStateException; list 43 -1 ! IllegalStateException");
        Calls.on("a number out of range comes first", "give 0 ! IllegalArgumentException;"
                + "give 1025 ! IllegalArgumentException; about 0 3 ! IllegalArgumentException;"
                + "about 0 -1 ! IllegalArgumentException; at -1 ! IllegalArgumentException;"
                + "at 1024 ! IllegalArgumentException; run 0 2 ! IllegalArgumentException;"
                + "run 0 -1 ! IllegalArgumentException; list 44 0 ! IllegalArgumentException;"
                + "list -1 0 ! IllegalArgumentException; count 0 = -1");
        Calls.on("worst needs no ROOM", "worst 0 1 1 = 1; count 0 = -1; give 1 ! IllegalStateException");
        Calls.end();
    }
}
