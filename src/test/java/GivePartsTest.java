/** Promises 3 and 4 in forms 4 to 6: halves of two, pages of classes, rows of bits. */
public final class GivePartsTest {
    public static void main(String[] args) {
        halves();
        wholeOfHalves();
        spansOfHalves();
        halvesBack();
        pages();
        howManyPages();
        spansOfPages();
        freePages();
        rowsOfPages();
        grains();
        howManyGrains();
        stepsOfGrains();
        Calls.end();
    }

    private static void halves() {
        Calls.on("halves, W of 31 words is 16", "open 4 31; count 10 = 1; give 17 = -1; count 8 = 1; give 16 = 0; about 0 1 = 16;"
                + "count 8 = 2; count 10 = 0; give 1 = -1; count 8 = 2; back 0 = 0; count 10 = 1;"
                + "give 3 = 1; about 1 1 = 4; about 1 2 = 3; count 10 = 2; give 5 = 2; about 2 0 = 8; about 2 1 = 8; count 10 = 1;"
                + "give 9 = -1; count 8 = 6; back 1 = 0; count 10 = 1; back 2 = 8; count 10 = 1; run 0 1 = 31; give 16 = 3");
        Calls.on("\"the smallest free PIECE of S words or more, the first of several\"", "open 4 16; give 4 = 0; give 4 = 1; give 2 = 2;"
                + "about 2 0 = 8; back 1 = 4; count 10 = 3; give 3 = 3; about 3 0 = 4; give 1 = 4; about 4 0 = 10; count 10 = 2;"
                + "give 4 = 5; about 5 0 = 12");
        Calls.on("\"while it is greater than S it is halved, and the first half goes on\"", """
                open 4 16; give 1 = 0; about 0 0 = 0; count 10 = 4; give 8 = 1; about 1 0 = 8; give 4 = 2; about 2 0 = 4
                give 2 = 3; about 3 0 = 2; give 1 = 4; about 4 0 = 1; count 10 = 0; give 1 = -1
                """);
    }

    /** "of the first words as many as the greatest power of two, W": all of W is one PIECE, and not one word more. */
    private static void wholeOfHalves() {
        int[][] wholes = {{16, 16}, {17, 16}, {31, 16}, {32, 32}, {33, 32}, {511, 256}, {512, 512}, {513, 512}, {1023, 512}, {1024, 1024}};
        for (int[] whole : wholes) {
            int words = whole[0];
            int w = whole[1];
            Calls calls = Calls.on("W of " + words + " words", "open 4 " + words + "; count 10 = 1; give " + w + " = 0; about 0 0 = 0;"
                    + "about 0 1 = " + w
                    + "; count 10 = 0; give 1 = -1; count 7 = " + (words - w) + "; back 0 = 0; count 10 = 1");
            if (w < 1024) {
                calls.then("give " + (w + 1) + " = -1; give 1024 = -1; count 10 = 1; count 2 = 0");
            }
        }
    }

    private static void spansOfHalves() {
        int[][] spans = {{1, 1}, {2, 2}, {3, 4}, {4, 4}, {5, 8}, {8, 8}, {9, 16}, {255, 256}, {256, 256}, {257, 512}, {512, 512}, {513, 1024}, {1024, 1024}};
        spansAre(4, "\"SPAN the least power of two that is n or more, S\"", spans);
    }

    /** Of each form's BLOCK of n words in an empty ROOM of 1024 words: its SPAN, which at shows too. */
    private static void spansAre(int form, String sentence, int[][] spans) {
        for (int[] span : spans) {
            int n = span[0];
            int s = span[1];
            Calls calls = Calls.on(sentence, "open " + form + " 1024; give " + n + " = 0; about 0 0 = 0; about 0 1 = " + s + ";"
                    + "about 0 2 = " + n
                    + "; count 4 = " + n + "; count 5 = " + s + "; count 7 = " + (1024 - s) + "; at " + (s - 1) + " = 0");
            if (s < 1024) {
                calls.then("at " + s + " = -1; run 0 0 = " + s);
            }
        }
    }

    private static void halvesBack() {
        Calls.on("free neighbours that are not halves of one", "open 4 16; give 4 = 0; give 4 = 1; give 4 = 2; give 4 = 3; back 1 = 4;"
                + "back 2 = 8; count 10 = 2; run 0 1 = 8; give 8 = -1; give 5 = -1; back 0 = 0; count 10 = 2; give 8 = 4; about 4 0 = 0");
        Calls.on("\"both become that again, and so on\"", "open 4 1024; give 1024 = 0; back 0 = 0; give 1 = 1; count 10 = 10; back 1 = 0;"
                + "count 10 = 1;"
                + "give 1024 = 2; about 2 0 = 0");
        Calls.on("the other half is halved itself", "open 4 16; give 8 = 0; give 4 = 1; give 4 = 2; back 1 = 8;"
                + "back 0 = 0; count 10 = 2; give 8 = 3; about 3 0 = 0; back 2 = 12; count 10 = 1; back 3 = 0; count 10 = 1; give 16 = 4");
        Calls.on("the second half comes back first", "open 4 16; give 8 = 0; give 8 = 1; back 1 = 8; count 10 = 1; give 16 = -1;"
                + "back 0 = 0; count 10 = 1; give 16 = 2");
    }

    private static void pages() {
        Calls.on("classes", "open 5 100; count 10 = 3; give 5 = 0; about 0 1 = 8; count 8 = 1; give 8 = 1; about 1 0 = 8; count 8 = 2;"
                + "give 3 = 2; about 2 0 = 32; about 2 1 = 4; count 8 = 4; give 33 = -1; count 8 = 7; give 32 = 3; about 3 0 = 64;"
                + "count 8 = 10; give 17 = -1; count 8 = 14; count 10 = 0; back 3 = 64; count 10 = 1; back 0 = 0; count 10 = 1;"
                + "back 1 = 8; count 10 = 2; back 2 = 32; count 10 = 3; give 64 = 4; about 4 0 = 0; count 8 = 16;"
                + "give 1 = 5; about 5 0 = 64; about 5 1 = 1; count 8 = 19; give 33 = -1; count 8 = 22; back 4 = 0; count 10 = 2");
        Calls.on("\"of the PAGES that are of that SPAN the first with a free place\"", "open 5 128; give 16 = 0; give 9 = 1; give 16 = 2;"
                + "about 1 0 = 16; about 2 0 = 32; count 8 = 5; back 0 = 0; give 10 = 3; about 3 0 = 0; count 8 = 6; count 10 = 2");
        Calls.on("\"the first such place\"", """
                open 5 64; give 8 = 0; give 7 = 1; give 6 = 2; give 5 = 3; about 3 0 = 24; give 8 = 4; about 4 0 = 32
                back 2 = 16; back 1 = 8; give 5 = 5; about 5 0 = 8; give 5 = 6; about 6 0 = 16; give 5 = 7; about 7 0 = 40
                """);
        Calls.on("a PAGE full of single words", "open 5 64; give 1 = 0; give 2 = 1; about 1 0 = 32").then(manyOnes(1))
                .then("give 1 = -1; back 20 = 19; give 1 = 33; about 33 0 = 19; give 1 = -1; count 10 = 0");
    }

    /** 31 BLOCKS of one word more, at words 1 to 31; the numbers go on from one that was given already. */
    private static String manyOnes(int given) {
        StringBuilder text = new StringBuilder();
        for (int word = 1; word < 32; word++) {
            int number = given + word;
            text.append("give 1 = ").append(number).append("; about ").append(number).append(" 0 = ").append(word).append(';');
        }
        return text.toString();
    }

    private static void howManyPages() {
        int[][] pages = {{16, 0}, {31, 0}, {32, 1}, {63, 1}, {64, 2}, {1023, 31}, {1024, 32}};
        for (int[] page : pages) {
            int all = 32 * page[1];
            Calls calls = Calls.on("\"PAGES of 32 words\", of " + page[0], "open 5 " + page[0] + "; count 10 = " + page[1]);
            if (all == 0) {
                calls.then("give 1 = -1; give 32 = -1; give 40 = -1; count 8 = 0; count 7 = " + page[0]);
            } else {
                calls.then("give " + all + " = 0; about 0 1 = " + all + "; count 10 = 0; count 8 = " + page[1] + "; give 1 = -1;"
                        + "count 7 = " + (page[0] - all)
                        + "; back 0 = 0; count 10 = " + page[1]);
            }
            if (all > 0 && all < 1024) {
                calls.then("give " + (all + 1) + " = -1; count 8 = " + 3 * page[1]);
            }
        }
    }

    private static void spansOfPages() {
        int[][] small = {{1, 1}, {2, 2}, {3, 4}, {4, 4}, {5, 8}, {8, 8}, {9, 16}, {16, 16}, {17, 32}, {31, 32}, {32, 32}};
        spansAre(5, "\"SPAN the least of 1, 2, 4, 8, 16, 32 that is n or more\"", small);
        int[][] great = {{33, 64}, {64, 64}, {65, 96}, {96, 96}, {97, 128}, {992, 992}, {993, 1024}, {1024, 1024}};
        spansAre(5, "\"n above 32: SPAN the PAGES that are needed, times 32\"", great);
    }

    private static void freePages() {
        Calls.on("\"A PAGE in which nothing is left is free.\": it is of another SPAN then", "open 5 64; give 2 = 0; give 4 = 1;"
                + "back 0 = 0; count 10 = 1;"
                + "give 4 = 2; about 2 0 = 36; give 16 = 3; about 3 0 = 0; count 10 = 0; give 2 = -1");
        Calls.on("a PAGE in which one place is left is not free", "open 5 32; give 1 = 0; give 1 = 1; back 0 = 0; count 10 = 0;"
                + "give 2 = -1; give 32 = -1;"
                + "back 1 = 1; count 10 = 1; give 2 = 2; about 2 0 = 0; back 2 = 0; give 32 = 3; about 3 0 = 0");
        Calls.on("\"no such: the first free PAGE is of that SPAN then\"", "open 5 128; give 32 = 0; give 32 = 1; give 32 = 2; back 1 = 32;"
                + "give 1 = 3; about 3 0 = 32;"
                + "give 2 = 4; about 4 0 = 96; give 4 = -1");
    }

    private static void rowsOfPages() {
        Calls.on("\"the first row of so many free PAGES\"", "open 5 224; give 32 = 0; give 32 = 1; give 32 = 2; give 65 = 3;"
                + "about 3 0 = 96;"
                + "about 3 1 = 96; back 1 = 32; count 8 = 15; give 64 = -1; count 8 = 22; back 2 = 64; give 34 = 4; about 4 0 = 32;"
                + "count 8 = 25; count 10 = 1; back 3 = 96; count 10 = 4; give 129 = -1; give 128 = 5; about 5 0 = 96; count 4 = 194");
        Calls.on("enough free PAGES, but not in one row", "open 5 96; give 32 = 0; give 32 = 1; give 32 = 2; back 0 = 0; back 2 = 64;"
                + "count 10 = 2;"
                + "give 33 = -1; back 1 = 32; give 96 = 3; about 3 0 = 0");
        Calls.on("the row at the end of the ROOM", "open 5 96; give 1 = 0; give 64 = 1; about 1 0 = 32; count 8 = 4; count 10 = 0;"
                + "back 1 = 32; count 10 = 2; give 65 = -1");
        Calls.on("the PAGES of a greater BLOCK are of no small SPAN", "open 5 96; give 64 = 0; give 32 = 1; about 1 0 = 64; count 8 = 5");
    }

    private static void grains() {
        Calls.on("bits", "open 6 50; give 1 = 0; about 0 1 = 4; count 8 = 1; give 5 = 1; about 1 0 = 8; about 1 1 = 8; count 8 = 3;"
                + "give 4 = 2; about 2 0 = 4; count 8 = 5; give 9 = 3; about 3 0 = 16; about 3 1 = 12; count 8 = 7;"
                + "give 17 = -1; count 8 = 8; give 16 = 4; about 4 0 = 32; count 8 = 11; give 4 = 5; about 5 0 = 28; count 8 = 19;"
                + "give 1 = -1; count 8 = 31; run 0 0 = 48; run 0 1 = 2; back 1 = 8; give 8 = 6; about 6 0 = 8");
        int[][] spans = {{1, 4}, {3, 4}, {4, 4}, {5, 8}, {8, 8}, {9, 12}, {1020, 1020}, {1021, 1024}, {1024, 1024}};
        spansAre(6, "\"SPAN 4 times the GRAINS g that are needed\"", spans);
    }

    private static void howManyGrains() {
        for (int words : new int[] {16, 19, 20, 1023, 1024}) {
            int all = words / 4 * 4;
            Calls calls = Calls.on("GRAINS of " + words + " words", "open 6 " + words + "; give " + all + " = 0; about 0 1 = " + all + ";"
                    + "count 8 = 1;"
                    + "give 1 = -1; count 7 = " + (words - all) + "; back 0 = 0");
            if (all < 1024) {
                calls.then("open 6 " + words + "; give " + (all + 1) + " = -1; count 8 = 0; give 1024 = -1; count 8 = 0");
            }
        }
        Calls.on("free GRAINS that no multiple of A begins", "open 6 32; give 4 = 0; give 4 = 1; give 4 = 2; give 4 = 3; back 1 = 4;"
                + "back 2 = 8; run 0 1 = 8;"
                + "give 16 = 4; about 4 0 = 16; give 8 = -1; give 4 = 5; about 5 0 = 4; give 4 = 6; about 6 0 = 8; give 1 = -1");
    }

    /** "A: the least power of two that is g or more, but at most 8": with GRAIN 0 taken, the next multiple of A is where g come. */
    private static void stepsOfGrains() {
        int[][] steps = {{1, 1}, {2, 2}, {3, 4}, {4, 4}, {5, 8}, {7, 8}, {8, 8}, {9, 8}, {16, 8}, {17, 8}, {248, 8}};
        for (int[] step : steps) {
            Calls.on("A of " + step[0] + " GRAINS", "open 6 1024; give 4 = 0; give " + 4 * step[0] + " = 1;"
                    + "about 1 0 = " + 4 * step[1] + "; count 8 = 3");
        }
        Calls.on("no multiple of 8 is left from which on there are 249", "open 6 1024; give 4 = 0; give 996 = -1; count 8 = 2");
        Calls.on("\"but at most 8\"", "open 6 256; give 4 = 0; give 48 = 1; about 1 0 = 32; count 8 = 3; give 68 = 2; about 2 0 = 96;"
                + "count 8 = 7");
    }
}
