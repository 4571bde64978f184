import java.io.IOException;
import java.nio.file.Files;
import java.nio.file.Path;
import java.util.ArrayList;
import java.util.List;

/**
 * The document from its first line to its last: each of its sentences that says what a call answers,
 * throws or leaves as it was, in its own words, with calls that hold it. In the end the document itself
 * is read, so that no sentence of its terms and promises is left without such calls.
 */
public final class DocumentTest {
    private static final List<String> SENTENCES = new ArrayList<>();

    public static void main(String[] args) throws IOException {
        use();
        terms();
        fits();
        halves();
        pages();
        grains();
        levels();
        stack();
        quick();
        looked();
        lookedInParts();
        leastRoom();
        thrown();
        openAndGive();
        twoHundred();
        backAboutAt();
        runAndList();
        worst();
        worstRooms();
        counts();
        everySentence();
        Calls.end();
    }

    private static void holds(String sentence, String calls) {
        SENTENCES.add(sentence);
        Calls.on("\"" + sentence + "\"", calls);
    }

    /** What holds in every form: in the calls a # stands for the form. */
    private static void holdsInAll(String sentence, String calls) {
        for (int form = 0; form < 10; form++) {
            holds(sentence, calls.replace("#", String.valueOf(form)));
        }
    }

    private static void use() {
        for (int form = 0; form < 10; form++) {
            Calls calls = Calls.on("\"An object is used for at most 512 calls after it has been made\", form " + form, "open " + form + ""
                    + " 32");
            for (int i = 0; i < 254; i++) {
                calls.then("give 32 = " + i + "; back " + i + " = 0");
            }
            calls.then("give 32 = 254; at 31 = 254; count 3 = 255");
        }
    }

    private static void terms() {
        holdsInAll("A ROOM has words 0 .. words - 1 (16 .. 1024).", """
                open # 16; at -1 ! IllegalArgumentException; at 0 = -1; at 15 = -1; at 16 ! IllegalArgumentException
                open # 1024; at 1023 = -1; at 1024 ! IllegalArgumentException
                open # 15 ! IllegalArgumentException; open # 1025 ! IllegalArgumentException; count 1 = 1024
                """);
        holdsInAll("BLOCKS have NUMBERS, 0, 1, .. as they are given in this ROOM, never twice", """
                open # 32; give 16 = 0; give 16 = 1; give 1 = -1; back 1 = 16; back 0 = 0; give 32 = 2; at 0 = 2
                back 0 ! NoSuchElementException; count 3 = 3; open # 32; count 3 = 0; give 32 = 0
                """);
        holds("ASKED: how many words were asked, SPAN: the words it has (ASKED or more), from its PLACE on.", """
                open 4 32; give 3 = 0; give 5 = 1; about 1 0 = 8; about 1 1 = 8; about 1 2 = 5
                at 3 = 0; at 4 = -1; at 7 = -1; at 8 = 1; at 15 = 1; at 16 = -1
                """);
        holds("A RUN is a row of words that no BLOCK has, as long as may be.", """
                open 0 20; give 5 = 0; give 5 = 1; give 5 = 2; back 0 = 0; count 6 = 2; run 0 0 = 0; run 0 1 = 5; run 1 0 = 15; run 1 1 = 5
                back 1 = 5; count 6 = 2; run 0 1 = 10; back 2 = 10; count 6 = 1; run 0 1 = 20; give 20 = 3; count 6 = 0
                """);
        holdsInAll("FORMS: where a BLOCK of n words comes:", "open # 64; give 8 = 0; about 0 0 = 0; give 8 = 1; about 1 0 = 8");
        holdsInAll("No room: -1.",
                "open # 63; give 64 = -1; give 1024 = -1; count 2 = 0; count 3 = 0; count 7 = 63; give 32 = 0; give 32 = -1");
    }

    private static void fits() {
        holds("0 first: SPAN n, at the beginning of the first RUN by PLACE that has n words.", """
                open 0 30; give 5 = 0; give 1 = 1; give 7 = 2; give 1 = 3; back 2 = 6; back 0 = 0; give 6 = 4; about 4 0 = 6; about 4 1 = 6
                give 5 = 5; about 5 0 = 0; give 2 = 6; about 6 0 = 14; give 1 = 7; about 7 0 = 12; give 15 = -1; give 14 = 8
                """);
        holds("1 next: of the RUNS from the end of the BLOCK given last on (0 at first; the RUN in which that is counts from there on),"
                + " then of those that begin ahead of that end, from the beginning, the first that has n.", """
                open 1 20; give 4 = 0; about 0 0 = 0; give 4 = 1; give 4 = 2; back 0 = 0; back 2 = 8; give 4 = 3; about 3 0 = 12
                give 5 = -1; give 4 = 4; about 4 0 = 16; give 3 = 5; about 5 0 = 0; give 2 = 6; about 6 0 = 8; give 3 = -1
                open 1 20; give 12 = 0; back 0 = 0; give 9 = 1; about 1 0 = 0; about 1 1 = 9
                """);
        String four = """
                 40; give 6 = 0; give 1 = 1; give 4 = 2; give 1 = 3; give 4 = 4; give 1 = 5; give 6 = 6; give 17 = 7
                back 6 = 17; back 4 = 12; back 2 = 7; back 0 = 0; give 7 = -1; give 3 = 8
                """;
        holds("2 best: the smallest that has n", "open 2" + four + """
                about 8 0 = 7; give 4 = 9; about 9 0 = 12; give 5 = 10; about 10 0 = 0; give 1 = 11; about 11 0 = 5; give 1 = 12
                about 12 0 = 10
                """);
        holds("3 worst: the greatest (the first of several).", "open 3" + four + """
                about 8 0 = 0; give 3 = 9; about 9 0 = 17; give 3 = 10; about 10 0 = 7; give 4 = 11; about 11 0 = 12; give 4 = -1
                """);
    }

    private static void halves() {
        holds("4 halves: of the first words as many as the greatest power of two, W.", """
                open 4 100; give 65 = -1; give 64 = 0; about 0 0 = 0; give 1 = -1; run 0 0 = 64; run 0 1 = 36; open 4 64; give 64 = 0
                count 6 = 0
                """);
        holds("SPAN the least power of two that is n or more, S.", """
                open 4 64; give 1 = 0; about 0 1 = 1; give 3 = 1; about 1 1 = 4; give 16 = 2; about 2 1 = 16; give 17 = 3; about 3 1 = 32
                """);
        holds("PIECES: at first W is one.",
                "open 4 100; count 10 = 1; open 4 16; count 10 = 1; open 4 1024; count 10 = 1; give 1024 = 0; count 10 = 0");
        holds("Taken is the smallest free PIECE of S words or more, the first of several; while it is greater than S it is halved,"
                + " and the first half goes on.", """
                open 4 32; give 2 = 0; about 0 0 = 0; count 10 = 4; give 4 = 1; about 1 0 = 4; give 3 = 2; about 2 0 = 8; count 10 = 3
                give 1 = 3; about 3 0 = 2; give 2 = 4; about 4 0 = 12; back 0 = 0; count 10 = 4; give 2 = 5; about 5 0 = 0
                give 2 = 6; about 6 0 = 14; give 17 = -1
                """);
        holds("Given back: if the other half of what it was halved from is a free PIECE, both become that again, and so on.", """
                open 4 32; give 8 = 0; give 8 = 1; give 8 = 2; give 8 = 3; back 1 = 8; back 2 = 16; count 10 = 2; give 16 = -1
                back 3 = 24; count 10 = 2; give 16 = 4; about 4 0 = 16; back 4 = 16; back 0 = 0; count 10 = 1; give 32 = 5
                """);
    }

    private static void pages() {
        holds("5 classes: PAGES of 32 words.",
                "open 5 95; count 10 = 2; open 5 96; count 10 = 3; open 5 31; count 10 = 0; give 1 = -1; count 7 = 31");
        holds("n up to 32: SPAN the least of 1, 2, 4, 8, 16, 32 that is n or more: of the PAGES that are of that SPAN the first with a"
                + " free place (0, SPAN, 2 SPAN .. in it), the first such place; no such: the first free PAGE is of that SPAN then.", """
                open 5 160; give 9 = 0; about 0 1 = 16; about 0 0 = 0; give 3 = 1; about 1 1 = 4; about 1 0 = 32; give 16 = 2
                about 2 0 = 16; give 10 = 3; about 3 0 = 64; give 4 = 4; about 4 0 = 36; give 17 = 5; about 5 1 = 32; about 5 0 = 96
                back 2 = 16; give 12 = 6; about 6 0 = 16; back 1 = 32; give 4 = 7; about 7 0 = 32; give 1 = 8; about 8 1 = 1
                about 8 0 = 128; give 2 = -1; give 5 = -1; give 32 = -1
                """);
        holds("A PAGE in which nothing is left is free.", """
                open 5 64; give 8 = 0; give 8 = 1; give 32 = 2; count 10 = 0; back 0 = 0; count 10 = 0; give 16 = -1
                back 1 = 8; count 10 = 1; give 16 = 3; about 3 0 = 0
                """);
        holds("n above 32: SPAN the PAGES that are needed, times 32: the first row of so many free PAGES.", """
                open 5 192; give 33 = 0; about 0 1 = 64; about 0 0 = 0; give 1 = 1; about 1 0 = 64; give 65 = 2; about 2 1 = 96
                about 2 0 = 96; count 10 = 0; back 0 = 0; count 10 = 2; give 65 = -1; give 64 = 3; about 3 1 = 64; about 3 0 = 0
                """);
    }

    private static void grains() {
        holds("6 bits: GRAINS of 4 words, SPAN 4 times the GRAINS g that are needed: the first GRAIN that is a multiple of A from which"
                + " on g are free; A: the least power of two that is g or more, but at most 8.", """
                open 6 128; give 1 = 0; about 0 0 = 0; about 0 1 = 4; give 5 = 1; about 1 0 = 8; about 1 1 = 8; give 4 = 2; about 2 0 = 4
                give 9 = 3; about 3 0 = 16; about 3 1 = 12; give 36 = 4; about 4 0 = 32; about 4 1 = 36; give 17 = 5; about 5 0 = 96
                about 5 1 = 20; give 4 = 6; about 6 0 = 28; open 6 19; give 17 = -1; give 16 = 0; give 1 = -1; run 0 0 = 16; run 0 1 = 3
                """);
    }

    private static void levels() {
        holds("7 levels: RUNS are in LISTS: of v words (1 and more), with 2^k <= v < 2^(k+1): LIST 4 k + (4 (v - 2^k)) / 2^k (cut).", """
                open 7 1024; list 40 0 = 0; open 7 1023; list 39 0 = 0; open 7 20; list 17 0 = 0; open 7 19; list 16 0 = 0
                give 16 = 0; list 6 0 = 16; give 1 = 1; list 4 0 = 17; give 1 = 2; list 0 0 = 18
                """);
        holds("A RUN comes to the beginning of its LIST when it comes to be, or is another one (what is left of one from which a BLOCK"
                + " was taken; what became one by a BLOCK that was given back; at first all words).", """
                open 7 64; list 24 0 = 0; give 2 = 0; list 24 0 ! IndexOutOfBoundsException; list 23 0 = 2; give 1 = 1; list 23 0 = 3
                give 2 = 2; give 1 = 3; give 2 = 4; give 1 = 5; list 22 0 = 9; back 2 = 3; back 0 = 0; back 4 = 6
                list 4 0 = 6; list 4 1 = 0; list 4 2 = 3; back 3 = 5; list 9 0 = 3; list 4 0 = 0; list 4 1 ! IndexOutOfBoundsException
                """);
        holds("n: the first LIST, from that of n on, with a RUN at its beginning that has n words: of the LIST of n itself all its RUNS"
                + " are looked at, from the beginning; of later ones the first is taken.", """
                open 7 128; give 16 = 0; give 1 = 1; give 19 = 2; give 1 = 3; give 17 = 4; give 1 = 5; back 2 = 17; back 4 = 37; back 0 = 0
                list 16 0 = 0; list 16 1 = 37; list 16 2 = 17; give 17 = 6; about 6 0 = 37; give 18 = 7; about 7 0 = 17
                give 18 = 8; about 8 0 = 55; give 9 = 9; about 9 0 = 0; give 128 = -1
                """);
        holds("SPAN n, at its beginning.",
                "open 7 32; give 5 = 0; about 0 1 = 5; about 0 0 = 0; give 3 = 1; about 1 1 = 3; about 1 0 = 5; run 0 0 = 8");
    }

    private static void stack() {
        holds("8 stack: SPAN n, at TOP, if there is room (TOP 0 at first).", """
                open 8 20; count 11 = 0; give 21 = -1; give 7 = 0; about 0 0 = 0; about 0 1 = 7; count 11 = 7; give 14 = -1; give 13 = 1
                about 1 0 = 7; count 11 = 20; give 1 = -1; count 11 = 20
                """);
        holds("Given back: while the last BLOCK by PLACE (given back ones too, that are still there) was given back, it goes, and TOP is"
                + " its PLACE.", """
                open 8 20; give 2 = 0; give 3 = 1; give 4 = 2; give 5 = 3; back 2 = 5; count 11 = 14; back 1 = 2; count 11 = 14
                back 3 = 9; count 11 = 2; give 18 = 4; about 4 0 = 2; back 0 = 0; count 11 = 20; back 4 = 2; count 11 = 0
                """);
    }

    private static void quick() {
        holds("9 quick: a BLOCK of 8 words or less that is given back comes to the beginning of the QUICK row of its SPAN, and is no"
                + " RUN.", """
                open 9 40; give 8 = 0; give 9 = 1; give 8 = 2; back 0 = 0; count 9 = 1; count 6 = 1; back 1 = 8; count 9 = 1; count 6 = 2
                back 2 = 17; count 9 = 2; count 6 = 2; run 0 0 = 8; run 0 1 = 9; run 1 0 = 25; give 8 = 3; about 3 0 = 17; give 8 = 4
                about 4 0 = 0
                """);
        holds("n up to 8, and its QUICK row has one: that at the beginning (ahead of all).", """
                open 9 40; give 10 = 0; give 3 = 1; give 3 = 2; give 4 = 3; back 0 = 0; back 1 = 10; back 2 = 13
                give 3 = 4; about 4 0 = 13; give 3 = 5; about 5 0 = 10; give 3 = 6; about 6 0 = 0
                """);
        holds("Else as 0; no RUN: all QUICK rows are emptied, as if these had been given back now, and once more. SPAN n.", """
                open 9 20; give 3 = 0; give 4 = 1; give 5 = 2; give 8 = 3; back 1 = 3; back 0 = 0; back 3 = 12; count 9 = 3; count 6 = 0
                give 2 = 4; about 4 0 = 0; about 4 1 = 2; count 9 = 0; count 6 = 2; run 0 0 = 2; run 0 1 = 5; run 1 0 = 12; run 1 1 = 8
                """);
    }

    private static void looked() {
        holds("LOOKED: how many RUNS (0 to 3, 9 without QUICK ones", """
                open 0 20; give 2 = 0; give 3 = 1; give 4 = 2; give 5 = 3; count 8 = 4; back 0 = 0; back 2 = 5; give 3 = 4; about 4 0 = 5
                count 8 = 6; give 7 = -1; count 8 = 9; open 9 20; give 2 = 0; give 9 = 1; back 0 = 0; count 8 = 2; give 2 = 2; count 8 = 2
                back 2 = 0; give 3 = 3; about 3 0 = 11; count 8 = 3
                """);
        holds("1: the RUN with the end in it counts twice, if it is come to twice", """
                open 1 20; give 8 = 0; count 8 = 1; give 13 = -1; count 8 = 2; back 0 = 0; give 13 = 1; about 1 0 = 0; count 8 = 4
                back 1 = 0; give 7 = 2; about 2 0 = 13; count 8 = 5
                """);
        String twoRuns = " 20; give 4 = 0; give 4 = 1; count 8 = 2; back 0 = 0; give 4 = 2; count 8 = 4; back 1 = 4; give 17 = -1; count"
                + " 8 = ";
        holds("2, 3 all", "open 2" + twoRuns + "5; give 16 = 3; count 8 = 6");
        holds("2, 3 all", "open 3" + twoRuns + "6; give 8 = 3; about 3 0 = 0; count 8 = 8");
    }

    private static void lookedInParts() {
        holds("PIECES (4: all free ones)",
                "open 4 32; give 2 = 0; count 8 = 1; give 16 = 1; count 8 = 5; give 16 = -1; count 8 = 8; give 64 = -1; count 8 = 11");
        holds("PAGES (5: those of that SPAN that are come to, then all from the first on up to the free one, or the last of the row, that"
                + " is found; all, if none is)", """
                open 5 160; give 32 = 0; count 8 = 1; give 1 = 1; count 8 = 3; give 32 = 2; about 2 0 = 64; count 8 = 7; give 2 = 3
                count 8 = 11; give 1 = 4; about 4 0 = 33; count 8 = 12; back 2 = 64; give 64 = -1; count 8 = 17; back 3 = 96; give 64 = 5
                about 5 0 = 64; count 8 = 21; give 32 = 6; about 6 0 = 128; count 8 = 27; give 32 = -1; count 8 = 34
                """);
        holds("GRAINS at which it was tried (6: multiples of A from which on there are g)", """
                open 6 44; give 4 = 0; count 8 = 1; give 4 = 1; count 8 = 3; give 8 = 2; about 2 0 = 8; count 8 = 5; give 12 = 3
                about 3 0 = 16; count 8 = 7
                give 12 = 4; about 4 0 = 32; count 8 = 10; give 16 = -1; count 8 = 12; give 45 = -1; count 8 = 12
                """);
        holds("RUNS whose words were looked at (7)", """
                open 7 64; give 19 = 0; give 1 = 1; give 16 = 2; give 1 = 3; count 8 = 0; back 0 = 0; back 2 = 20; give 18 = 4
                about 4 0 = 0; count 8 = 2; give 17 = 5; about 5 0 = 37; count 8 = 3; give 28 = -1; count 8 = 3
                """);
        holds("1 (8) were come to by give, in all",
                "open 8 16; give 9 = 0; count 8 = 1; give 8 = -1; count 8 = 2; back 0 = 0; count 8 = 2; give 8 = 1; count 8 = 3");
        holds("what a second try comes to counts too.", """
                open 9 20; give 5 = 0; give 9 = 1; give 3 = 2; count 8 = 3; back 0 = 0; back 2 = 14; give 4 = 3; about 3 0 = 0; count 8 = 5
                give 3 = 4; about 4 0 = 14; count 8 = 7; give 3 = 5; about 5 0 = 17; count 8 = 9; give 3 = -1; count 8 = 11
                """);
    }

    /** With one word or two in each ask and 3 together, a word that stands alone leaves two side by side in 4 words, but not in 3. */
    private static void leastRoom() {
        for (int form = 0; form < 4; form++) {
            holds("WORST: of a FORM 0 .. 3: the least words (live .. 14) such that from an empty ROOM of so many words, whatever is asked"
                    + " (1 .. most words)"
                    + " and given back in whatever order, with never more than live words ASKED together, each ask finds room.",
                    "worst # 1 1 = 1; worst # 1 8 = 8; worst # 2 2 = 2; worst # 2 3 = 4".replace("#", String.valueOf(form)));
        }
    }

    private static void thrown() {
        holds("What is thrown, in this order: IllegalArgumentException: a number out of range; IllegalStateException: there is no ROOM;"
                + " NoSuchElementException: a BLOCK that is not there; then as told.", """
                about 5 3 ! IllegalArgumentException; about 5 0 ! IllegalStateException; give 0 ! IllegalArgumentException
                give 1 ! IllegalStateException; list 44 0 ! IllegalArgumentException; list 0 0 ! IllegalStateException
                run 9 2 ! IllegalArgumentException; run 9 0 ! IllegalStateException; at 1024 ! IllegalArgumentException
                at 1023 ! IllegalStateException; back -1 ! IllegalStateException; open 0 16; about 5 3 ! IllegalArgumentException
                about 5 0 ! NoSuchElementException; back 0 ! NoSuchElementException; list 44 0 ! IllegalArgumentException
                list 0 0 ! UnsupportedOperationException; run 1 2 ! IllegalArgumentException; run 1 0 ! IndexOutOfBoundsException
                at 16 ! IllegalArgumentException; open 7 16; list 44 0 ! IllegalArgumentException; list 0 0 ! IndexOutOfBoundsException
                """);
        holds("A call that throws changes nothing.", """
                open 9 20; give 5 = 0; back 0 = 0; give 1025 ! IllegalArgumentException; open 10 16 ! IllegalArgumentException
                open 0 15 ! IllegalArgumentException; back 0 ! NoSuchElementException; about 0 0 ! NoSuchElementException
                run 5 0 ! IndexOutOfBoundsException; list 0 0 ! UnsupportedOperationException; worst 0 2 1 ! IllegalArgumentException
                count 13 ! IllegalArgumentException; at 20 ! IllegalArgumentException; count 0 = 9; count 1 = 20; count 2 = 0; count 3 = 1
                count 8 = 1; count 9 = 1; count 12 = 0; give 5 = 1; about 1 0 = 0; count 8 = 1
                """);
    }

    private static void openAndGive() {
        holds("No ROOM.", """
                count 0 = -1; count 1 = 0; give 1 ! IllegalStateException; back 0 ! IllegalStateException; about 0 0 ! IllegalStateException
                at 0 ! IllegalStateException; run 0 0 ! IllegalStateException; list 0 0 ! IllegalStateException
                """);
        holdsInAll("A new, empty ROOM of words 16 .. 1024, form 0 .. 9; LOOKED is 0.", """
                open # 64; give 20 = 0; give 64 = -1; open # 1024; count 0 = #; count 1 = 1024; count 2 = 0; count 3 = 0; count 6 = 1
                count 7 = 1024; count 8 = 0; open # 16; count 1 = 16; count 7 = 16; count 8 = 0
                open # 15 ! IllegalArgumentException; open # 1025 ! IllegalArgumentException; open -1 16 ! IllegalArgumentException
                open 10 16 ! IllegalArgumentException; count 0 = #; count 1 = 16
                """);
        holdsInAll("A BLOCK of n words, 1 .. 1024. Answers its NUMBER; -1.", """
                open # 1024; give 0 ! IllegalArgumentException; give 1025 ! IllegalArgumentException; give 1024 = 0; about 0 2 = 1024
                give 1 = -1; back 0 = 0; give 1 = 1; about 1 2 = 1; give 1024 = -1; count 3 = 2
                """);
    }

    private static void twoHundred() {
        for (int form = 0; form < 10; form++) {
            StringBuilder calls = new StringBuilder("open " + form + " 800;");
            for (int i = 0; i < 200; i++) {
                calls.append("give 1 = ").append(i).append(';');
            }
            calls.append("give 1025 ! IllegalArgumentException; give 1 ! IndexOutOfBoundsException; give 801 ! IndexOutOfBoundsException;"
                    + "count 2 = 200; count 3 = 200; back 0 = 0; give 801 = -1; give 1 = 200; give 1 ! IndexOutOfBoundsException");
            holds("200 BLOCKS are there: IndexOutOfBoundsException.", calls.toString());
        }
    }

    private static void backAboutAt() {
        holdsInAll("The BLOCK is given back. Answers its PLACE.", """
                open # 64; give 32 = 0; give 32 = 1; back 1 = 32; at 32 = -1; count 2 = 1; back 1 ! NoSuchElementException
                back 2 ! NoSuchElementException; back -1 ! NoSuchElementException; back 0 = 0; count 2 = 0; count 7 = 64
                """);
        String two = "open # 64; give 8 = 0; give 7 = 1; about 1 2 = 7; about 0 1 = 8; about 1 3 ! IllegalArgumentException;"
                + "about 1 -1 ! IllegalArgumentException; about 2 0 ! NoSuchElementException; about 1 0 = 8;";
        for (int form = 0; form < 10; form++) {
            int span = form >= 4 && form <= 6 ? 8 : 7;
            holds("Of a BLOCK, what 0: PLACE, 1: SPAN, 2: ASKED.", two.replace("#", String.valueOf(form)) + "about 1 1 = " + span);
        }
        holds("The BLOCK that has a word, 0 .. words - 1 (without ROOM 0 .. 1023); -1 none (QUICK ones, and what was given back on the"
                + " stack, are none).", """
                at 1023 ! IllegalStateException; at 1024 ! IllegalArgumentException; at -1 ! IllegalArgumentException
                open 9 20; give 4 = 0; give 4 = 1; at 3 = 0; at 4 = 1; at 7 = 1; at 8 = -1; back 0 = 0; count 9 = 1; at 0 = -1; at 3 = -1
                at 4 = 1; at 19 = -1; at 20 ! IllegalArgumentException
                open 8 20; give 4 = 0; give 4 = 1; back 0 = 0; count 11 = 8; at 0 = -1; at 3 = -1; at 4 = 1; at 8 = -1
                """);
    }

    private static void runAndList() {
        holds("RUN i by PLACE, part 0 its PLACE, 1 how many words; there is none: IndexOutOfBoundsException.", """
                open 2 20; give 3 = 0; give 2 = 1; give 4 = 2; give 1 = 3; back 2 = 5; back 0 = 0; run 0 0 = 0; run 0 1 = 3; run 1 0 = 5
                run 1 1 = 4; run 2 0 = 10; run 2 1 = 10; run 3 0 ! IndexOutOfBoundsException; run -1 0 ! IndexOutOfBoundsException
                run 0 2 ! IllegalArgumentException; run 0 -1 ! IllegalArgumentException; give 10 = 4; run 2 0 ! IndexOutOfBoundsException
                """);
        holds("The RUN at place i of a LIST, 0 .. 43, from its beginning: its PLACE", """
                open 7 32; give 3 = 0; give 1 = 1; give 3 = 2; give 1 = 3; back 2 = 4; back 0 = 0; list 6 0 = 0; list 6 1 = 4; list 18 0 = 8
                list -1 0 ! IllegalArgumentException; list 44 0 ! IllegalArgumentException; list 43 0 ! IndexOutOfBoundsException
                """);
        for (int form = 0; form < 10; form++) {
            holds("(form 7 alone: else UnsupportedOperationException)", "open " + form + " 16;"
                    + (form == 7 ? "list 16 0 = 0" : "list 16 0 ! UnsupportedOperationException; list 0 -1 !"
                            + " UnsupportedOperationException"));
        }
        holds("there is none: IndexOutOfBoundsException.", """
                open 7 16; list 16 1 ! IndexOutOfBoundsException; list 15 0 ! IndexOutOfBoundsException
                list 16 -1 ! IndexOutOfBoundsException; give 16 = 0; list 16 0 ! IndexOutOfBoundsException
                """);
    }

    private static void worst() {
        holds("WORST of a form 0 .. 3, most 1 .. 4, live 1 .. 8, most <= live: the words", """
                worst -1 1 1 ! IllegalArgumentException; worst 4 1 1 ! IllegalArgumentException; worst 0 0 1 ! IllegalArgumentException
                worst 0 5 8 ! IllegalArgumentException; worst 0 1 0 ! IllegalArgumentException; worst 0 1 9 ! IllegalArgumentException
                worst 0 2 1 ! IllegalArgumentException; worst 0 1 1 = 1; worst 3 1 8 = 8; worst 0 4 4 = 6
                """);
        holds("-1: 14 are not enough", "worst 0 4 8 = -1; worst 2 4 8 = -1; worst 3 4 7 = -1");
        holds("-2: with some number of words, from live on, more than 20000 ROOMS that may come would be looked at",
                "worst 1 4 8 = -2; worst 3 3 8 = -2");
    }

    /** The ROOMS of a few words, told one by one. */
    private static void worstRooms() {
        // {}, a word at 0, both words as one BLOCK, both as two, a word at 1.
        holds("different ones by where BLOCKS are", "worst 0 2 2 = 2; count 12 = 5");
        // {} with the end 0, a word at 0 with the end 1, {} with the end 1.
        holds("and with form 1 where the last one ended", "worst 1 1 1 = 1; count 12 = 3");
        // {}, a word at 0.
        holds("the empty one is one", "worst 0 1 1 = 1; count 12 = 2");
        // Of 4 words: {}, 1 at 0, at 1, at 2; 2 at 0, at 1, at 2; 1 and 1 at 0 1, 0 2, 1 2; all three;
        // 1 and 2 at 0 1, 1 2, 0 2; 2 and 1 at 0 2.
        holds("with each number of words anew", "worst 0 2 3 = 4; count 12 = 15");
        holds("in breadth: from each, in the order in which they are come to, asks of 1 .. most words, then each BLOCK by PLACE is given"
                + " back;"
                + " an ask that finds no room ends that number of words", "worst 0 4 8 = -1; count 12 = 6214; worst 3 4 7 = -1; count 12"
                        + " = 7042");
    }

    private static void counts() {
        holdsInAll("what 0: form (-1 without ROOM), 1: words (0)", "count 0 = -1; count 1 = 0; open # 77; count 0 = #; count 1 = 77");
        for (int form = 0; form < 10; form++) {
            int spans = form >= 4 && form <= 6 ? 16 : 15;
            holds("2: BLOCKS, 3: NUMBERS given, 4: words ASKED together, 5: of SPANS together", """
                    count 2 = 0; count 3 = 0; count 4 = 0; count 5 = 0; open # 64; give 8 = 0; give 8 = 1; give 7 = 2; back 0 = 0
                    count 2 = 2; count 3 = 3; count 4 = 15; count 5 =""".replace("#", String.valueOf(form)) + " " + spans);
        }; holds("6: RUNS, 7: words of the greatest RUN (0)", """
                count 6 = 0; count 7 = 0; open 0 20; count 6 = 1; count 7 = 20; give 7 = 0; give 8 = 1; count 7 = 5; back 0 = 0
                count 6 = 2; count 7 = 7; give 7 = 2; give 5 = 3; count 6 = 0; count 7 = 0
                """);
        holds("8: LOOKED, 9: QUICK ones", """
                count 8 = 0; count 9 = 0; open 9 20; give 3 = 0; give 4 = 1; give 9 = 2; count 8 = 3; back 1 = 3; back 0 = 0; back 2 = 7
                count 9 = 2; give 4 = 3; count 8 = 3; count 9 = 1; open 0 20; give 3 = 0; back 0 = 0; count 9 = 0
                """);
        holdsInAll("10: free PIECES (4), free PAGES (5), else 0, 11: TOP (8), else 0", "count 10 = 0; count 11 = 0");
        for (int form = 0; form < 10; form++) {
            int parts = form == 4 ? 3 : form == 5 ? 2 : 0;
            holds("10: free PIECES (4), free PAGES (5), else 0, 11: TOP (8), else 0",
                    "open " + form + " 96; give 8 = 0; count 10 = " + parts
                    + "; count 11 = " + (form == 8 ? 8 : 0));
        }
        holds("12: different ROOMS that the latest worst came to with the last number of words (20000 with -2; 0 at first).", """
                count 12 = 0; open 0 16; count 12 = 0; worst 0 1 2 = 2; count 12 = 4; worst 1 4 8 = -2; count 12 = 20000
                worst 0 1 9 ! IllegalArgumentException; count 12 = 20000; worst 0 1 1 = 1; count 12 = 2; open 1 20; count 12 = 2
                """);
    }

    /** What is left of the terms and promises without the sentences above must not say anything. */
    private static void everySentence() throws IOException {
        Path path = Path.of(System.getProperty("document", "../shared/DOC.md"));
        if (!Files.isReadable(path)) {
            System.out.println("the document is not at " + path + ": its sentences are not compared");
            return;
        }
        String text = plain(Files.readString(path));
        StringBuilder left = new StringBuilder(text);
        for (String sentence : SENTENCES) {
            Calls.same("the document says: " + sentence, String.valueOf(text.contains(sentence)), "true");
            for (int i = text.indexOf(sentence); i >= 0; i = text.indexOf(sentence, i + 1)) {
                left.replace(i, i + sentence.length(), ".".repeat(sentence.length()));
            }
        }
        Calls.same("what no calls hold", left.toString().replaceAll("[ .,;:()]+", " ").trim(), "");
    }

    /** The terms and promises without headings, fences and signatures, in one line. */
    private static String plain(String document) {
        int begin = Math.max(document.indexOf("## Terms"), 0);
        int end = document.indexOf("## Not promised");
        String part = document.substring(begin, end < begin ? document.length() : end);
        return part.replaceAll("(?m)^(#|```).*$", "").replaceAll("(?m)^`[^`]*`", "").replaceAll("\\s+", " ");
    }
}
