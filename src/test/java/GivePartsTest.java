/** Promises 3 and 4 in forms 4 to 6: halves of two, pages of classes, rows of bits. */
public final class GivePartsTest {
    public static void main(String[] args) {
        halves();
        pages();
        grains();
        Calls.end();
    }

    private static void halves() {
        Calls.on("halves, W of 31 words is 16", "open 4 31; count 10 = 1; give 17 = -1; count 8 = 1; give 16 = 0; about 0 1 = 16;"
                + "count 8 = 2; count 10 = 0; give 1 = -1; count 8 = 2; back 0 = 0; count 10 = 1;"
                + "give 3 = 1; about 1 1 = 4; about 1 2 = 3; count 10 = 2; give 5 = 2; about 2 0 = 8; about 2 1 = 8; count 10 = 1;"
                + "give 9 = -1; count 8 = 6; back 1 = 0; count 10 = 1; back 2 = 8; count 10 = 1; run 0 1 = 31; give 16 = 3");
        Calls.on("halves, the first of several", "open 4 16; give 4 = 0; give 4 = 1; give 2 = 2; about 2 0 = 8; back 1 = 4;"
                + "count 10 = 3; give 3 = 3; about 3 0 = 4; give 1 = 4; about 4 0 = 10; count 10 = 2; give 4 = 5; about 5 0 = 12");
        Calls.on("halves, neighbours of two wholes", "open 4 16; give 4 = 0; give 4 = 1; give 4 = 2; give 4 = 3; back 1 = 4;"
                + "back 2 = 8; count 10 = 2; run 0 1 = 8; give 8 = -1; give 5 = -1; back 0 = 0; count 10 = 2; give 8 = 4; about 4 0 = 0");
        Calls.on("halves, a whole of 1024", "open 4 1024; give 1024 = 0; back 0 = 0; give 1 = 1; count 10 = 10; back 1 = 0; count 10 = 1");
        Calls.on("halves, another size is not the other half", "open 4 16; give 8 = 0; give 4 = 1; give 4 = 2; back 1 = 8;"
                + "back 0 = 0; count 10 = 2; give 8 = 3; about 3 0 = 0");
    }

    private static void pages() {
        Calls.on("classes", "open 5 100; count 10 = 3; give 5 = 0; about 0 1 = 8; count 8 = 1; give 8 = 1; about 1 0 = 8; count 8 = 2;"
                + "give 3 = 2; about 2 0 = 32; about 2 1 = 4; count 8 = 4; give 33 = -1; count 8 = 7; give 32 = 3; about 3 0 = 64;"
                + "count 8 = 10; give 17 = -1; count 8 = 14; count 10 = 0; back 3 = 64; count 10 = 1; back 0 = 0; count 10 = 1;"
                + "back 1 = 8; count 10 = 2; back 2 = 32; count 10 = 3; give 64 = 4; about 4 0 = 0; count 8 = 16;"
                + "give 1 = 5; about 5 0 = 64; about 5 1 = 1; count 8 = 19; give 33 = -1; count 8 = 22; back 4 = 0; count 10 = 2");
        Calls.on("classes, no whole PAGE", "open 5 31; count 10 = 0; give 1 = -1; give 40 = -1; count 8 = 0; count 7 = 31");
        Calls.on("classes, a PAGE is full", "open 5 128; give 16 = 0; give 9 = 1; give 16 = 2; about 1 0 = 16; about 2 0 = 32; count 8 = 5;"
                + "back 0 = 0; give 10 = 3; about 3 0 = 0; count 8 = 6; count 10 = 2");
        Calls.on("classes, a free PAGE changes its SPAN", "open 5 64; give 2 = 0; give 4 = 1; back 0 = 0; give 4 = 2; about 2 0 = 36;"
                + "give 16 = 3; about 3 0 = 0; give 2 = -1");
        Calls.on("classes, the first row of free PAGES", "open 5 224; give 32 = 0; give 32 = 1; give 32 = 2; give 65 = 3; about 3 0 = 96;"
                + "about 3 1 = 96; back 1 = 32; count 8 = 15; give 64 = -1; count 8 = 22; back 2 = 64; give 34 = 4; about 4 0 = 32;"
                + "count 8 = 25; count 10 = 1; back 3 = 96; count 10 = 4; give 129 = -1; give 128 = 5; about 5 0 = 96; count 4 = 194");
        Calls.on("classes, PAGES of a greater BLOCK have no class", "open 5 96; give 64 = 0; give 32 = 1; about 1 0 = 64; count 8 = 5");
    }

    private static void grains() {
        Calls.on("bits", "open 6 50; give 1 = 0; about 0 1 = 4; count 8 = 1; give 5 = 1; about 1 0 = 8; about 1 1 = 8; count 8 = 3;"
                + "give 4 = 2; about 2 0 = 4; count 8 = 5; give 9 = 3; about 3 0 = 16; about 3 1 = 12; count 8 = 7;"
                + "give 17 = -1; count 8 = 8; give 16 = 4; about 4 0 = 32; count 8 = 11; give 4 = 5; about 5 0 = 28; count 8 = 19;"
                + "give 1 = -1; count 8 = 31; run 0 0 = 48; run 0 1 = 2; back 1 = 8; give 8 = 6; about 6 0 = 8");
        Calls.on("bits, A is at most 8", "open 6 256; give 4 = 0; give 48 = 1; about 1 0 = 32; count 8 = 3; give 68 = 2; about 2 0 = 96; count 8 = 7");
        Calls.on("bits, more than all", "open 6 19; give 17 = -1; count 8 = 0; give 16 = 0; count 8 = 1; give 1024 = -1; count 8 = 1");
    }
}
