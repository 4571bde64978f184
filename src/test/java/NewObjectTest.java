/** Promise 1: a new object has no ROOM, and says so in the order that the document tells. */
public final class NewObjectTest {
    public static void main(String[] args) {
        counts();
        noRoom();
        outOfRange();
        untilOpened();
        Calls.end();
    }

    private static void counts() {
        Calls.on("\"what 0: form (-1 without ROOM)\"", "count 0 = -1");
        Calls.on("\"1: words (0)\"", "count 1 = 0");
        Calls.on("\"words of the greatest RUN (0)\"", "count 7 = 0");
        Calls.on("\"0 at first\"", "count 12 = 0");
        for (int what = 2; what <= 11; what++) {
            Calls.on("without ROOM nothing is counted", "count " + what + " = 0");
        }
        Calls.on("count's own range", "count -1 ! IllegalArgumentException; count 13 ! IllegalArgumentException");
    }

    private static void noRoom() {
        Calls.on("\"IllegalStateException: there is no ROOM\"", """
                give 1 ! IllegalStateException; give 1024 ! IllegalStateException
                back 0 ! IllegalStateException; back -1 ! IllegalStateException; back 2147483647 ! IllegalStateException
                about 0 0 ! IllegalStateException; about -5 2 ! IllegalStateException
                run 0 0 ! IllegalStateException; run 0 1 ! IllegalStateException
                list 0 0 ! IllegalStateException; list 43 0 ! IllegalStateException
                """);
        Calls.on("\"(without ROOM 0 .. 1023)\"", """
                at 0 ! IllegalStateException; at 16 ! IllegalStateException; at 1023 ! IllegalStateException
                at -1 ! IllegalArgumentException; at 1024 ! IllegalArgumentException
                at -2147483648 ! IllegalArgumentException; at 2147483647 ! IllegalArgumentException
                """);
    }

    private static void outOfRange() {
        Calls.on("a number out of range comes ahead of no ROOM", """
                give 0 ! IllegalArgumentException; give 1025 ! IllegalArgumentException
                about 0 -1 ! IllegalArgumentException; about 0 3 ! IllegalArgumentException
                run 0 -1 ! IllegalArgumentException; run 0 2 ! IllegalArgumentException
                list -1 0 ! IllegalArgumentException; list 44 0 ! IllegalArgumentException
                open -1 16 ! IllegalArgumentException; open 0 15 ! IllegalArgumentException
                """);
    }

    private static void untilOpened() {
        Calls.on("a refused open makes no ROOM", "open 10 16 ! IllegalArgumentException; open 9 1025 ! IllegalArgumentException;"
                + "count 0 = -1; count 1 = 0; give 1 ! IllegalStateException");
        Calls.on("worst needs no ROOM, and makes none", "worst 0 1 1 = 1; count 12 = 2; count 0 = -1; count 1 = 0;"
                + "give 1 ! IllegalStateException");
        Calls.on("one object in use", "open 0 16; give 16 = 0; worst 0 1 1 = 1");
        Calls.on("another object beside it", "count 0 = -1; count 2 = 0; count 12 = 0; at 0 ! IllegalStateException");
    }
}
