/** Promise 5: "Of a BLOCK, what 0: PLACE, 1: SPAN, 2: ASKED." */
public final class AboutTest {
    public static void main(String[] args) {
        // What a second BLOCK of 5 words, behind one of 3, has in each form.
        int[] places = {3, 3, 3, 3, 8, 32, 8, 3, 3, 3};
        int[] spans = {5, 5, 5, 5, 8, 8, 8, 5, 5, 5};
        for (int form = 0; form < 10; form++) {
            String open = "open " + form + " 100; give 3 = 0; give 5 = 1;";
            Calls.on("what 0 to 2, form " + form, open + "about 1 0 = " + places[form] + "; about 1 1 = " + spans[form] + ";"
                    + "about 1 2 = 5; about 0 0 = 0; about 0 2 = 3");
            Calls.on("one beyond each end of what, form " + form, open + "about 0 -1 ! IllegalArgumentException;"
                    + "about 0 3 ! IllegalArgumentException;"
                    + "about 0 -2147483648 ! IllegalArgumentException; about 0 2147483647 ! IllegalArgumentException");
            Calls.on("what is out of range comes ahead of a BLOCK that is not there, form " + form, open
                    + "about 9 3 ! IllegalArgumentException; about -1 -1 ! IllegalArgumentException");
            Calls.on("never was given, form " + form, open + "about 2 0 ! NoSuchElementException; about -1 1 ! NoSuchElementException;"
                    + "about 2147483647 2 ! NoSuchElementException; about -2147483648 0 ! NoSuchElementException");
            Calls.on("was given back, form " + form, open + "back 0 = 0; about 0 0 ! NoSuchElementException;"
                    + "about 0 1 ! NoSuchElementException;"
                    + "about 0 2 ! NoSuchElementException; about 1 0 = " + places[form] + "; about 1 2 = 5");
            Calls.on("of a ROOM that is no more, form " + form, open + "open " + form + " 16; about 0 0 ! NoSuchElementException;"
                    + "about 1 2 ! NoSuchElementException");
        }
        Calls.on("great SPANS", "open 5 1024; give 33 = 0; about 0 1 = 64; give 1024 = -1; give 960 = 1; about 1 0 = 64; about 1 1 = 960;"
                + "open 4 1024; give 513 = 0; about 0 1 = 1024; about 0 2 = 513; open 6 1024; give 1021 = 0; about 0 1 = 1024");
        Calls.end();
    }
}
