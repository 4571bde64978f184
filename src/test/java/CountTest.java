/** Promise 10: the counts. */
public final class CountTest {
    public static void main(String[] args) {
        Calls.on("wrong numbers", "count -1 ! IllegalArgumentException; count 13 ! IllegalArgumentException; open 0 16;"
                + "count -1 ! IllegalArgumentException; count 13 ! IllegalArgumentException; count 2147483647 ! IllegalArgumentException;"
                + "count -2147483648 ! IllegalArgumentException");
        // After BLOCKS of 3, 9 and 5 words, of which the first is given back.
        int[] spans = {14, 14, 14, 14, 24, 24, 20, 14, 14, 14};
        int[] runs = {2, 2, 2, 2, 2, 3, 2, 2, 2, 1};
        int[] greatest = {83, 83, 83, 83, 68, 32, 72, 83, 83, 83};
        int[] looked = {3, 3, 3, 3, 8, 6, 5, 0, 3, 3};
        int[] parts = {0, 0, 0, 0, 2, 1, 0, 0, 0, 0};
        for (int form = 0; form < 10; form++) {
            Calls.on("form " + form, "open " + form + " 100; give 3 = 0; give 9 = 1; give 5 = 2; back 0 = 0; count 0 = " + form
                    + "; count 1 = 100; count 2 = 2; count 3 = 3; count 4 = 14; count 5 = " + spans[form] + "; count 6 = " + runs[form]
                    + "; count 7 = " + greatest[form] + "; count 8 = " + looked[form] + "; count 9 = " + (form == 9 ? 1 : 0)
                    + "; count 10 = " + parts[form] + "; count 11 = " + (form == 8 ? 17 : 0) + "; count 12 = 0");
        }
        Calls.on("no RUN", "open 0 16; give 16 = 0; count 6 = 0; count 7 = 0");
        Calls.on("ROOMS of worst", "count 12 = 0; worst 0 1 3 = 3; count 12 = 8; open 3 16; give 1 = 0; count 12 = 8;"
                + "worst 0 1 9 ! IllegalArgumentException; count 12 = 8; worst 1 1 1 = 1; count 12 = 3; count 8 = 1; count 2 = 1; count 0 = 3");
        Calls.end();
    }
}
