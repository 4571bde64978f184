/** Promise 3: what give throws and answers in every form. */
public final class GiveTest {
    public static void main(String[] args) {
        for (int form = 0; form < 10; form++) {
            Calls.on("numbers out of range in form " + form, "open " + form + " 1024; give 0 ! IllegalArgumentException;"
                    + "give -1 ! IllegalArgumentException; give 1025 ! IllegalArgumentException;"
                    + "give 2147483647 ! IllegalArgumentException; give -2147483648 ! IllegalArgumentException;"
                    + "count 3 = 0; count 8 = 0; give 1024 = 0; about 0 0 = 0; about 0 1 = 1024; give 1 = -1; count 3 = 1; count 2 = 1");
            Calls.on("no room takes no NUMBER in form " + form, "open " + form + " 40; give 1024 = -1; give 32 = 0; give 33 = -1;"
                    + "back 0 = 0; give 1 = 1");
            twoHundred(form);
        }
        Calls.end();
    }

    private static void twoHundred(int form) {
        Calls calls = Calls.on("200 BLOCKS in form " + form, "open " + form + " 1024");
        for (int n = 0; n < 200; n++) {
            calls.then("give 1 = " + n);
        }
        String looked = "count 8 = " + lookedAtTwoHundred(form) + ";";
        calls.then(looked + "give 1 ! IndexOutOfBoundsException; give 1024 ! IndexOutOfBoundsException; give 0 ! IllegalArgumentException;"
                + looked + "count 2 = 200; count 3 = 200; back 7 = " + (form == 6 ? 28 : 7) + "; count 2 = 199; give 1 = 200;"
                + "count 2 = 200;"
                + "give 1 ! IndexOutOfBoundsException; back 7 ! NoSuchElementException; back 200 = " + placeAgain(form));
    }

    /** Each of the 200 asks of one word, in an empty ROOM of 1024 words. */
    private static int lookedAtTwoHundred(int form) {
        int sum = 0;
        for (int n = 0; n < 200; n++) {
            switch (form) {
                case 4: // The free PIECES are the zeros of n in ten bits, and at n = 0 the whole.
                    sum += n == 0 ? 1 : freePieces(n);
                    break;
                case 5: // PAGES of SPAN 1 up to the one that n is in; it is a new one every 32 words.
                    sum += n % 32 == 0 ? n / 32 + n / 32 + 1 : n / 32 + 1;
                    break;
                case 6:
                    sum += n + 1;
                    break;
                case 7: // One RUN, always in a later LIST.
                    break;
                default:
                    sum++;
            }
        }
        return sum;
    }

    /** With the first n words of 1024 taken by words: one free PIECE for each one-bit of 1024 - n. */
    private static int freePieces(int n) {
        return Integer.bitCount(1024 - n);
    }

    private static int placeAgain(int form) {
        switch (form) {
            case 1: return 200;
            case 3: return 200;
            case 6: return 28;
            case 8: return 200;
            default: return 7;
        }
    }
}
