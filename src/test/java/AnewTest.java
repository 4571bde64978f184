import java.util.ArrayList;
import java.util.List;

/**
 * Promise 2: a second open makes a ROOM in which nothing of the first is left. On one object a ROOM of
 * each form is used and then one of each form is opened; it must answer as on an object that is new.
 */
public final class AnewTest {
    private static final int[][] SIZES = {{64, 64}, {1000, 50}, {17, 200}};

    public static void main(String[] args) {
        for (int first = 0; first < 10; first++) {
            for (int second = 0; second < 10; second++) {
                for (int[] sizes : SIZES) {
                    hold(first, second, sizes);
                }
            }
        }
        Calls.end();
    }

    private static void hold(int first, int second, int[] sizes) {
        RoomForms used = new RoomForms();
        use(first, sizes[0]).forEach(call -> Calls.answer(used, call));
        RoomForms fresh = new RoomForms();
        for (String call : use(second, sizes[1])) {
            Calls.same("form " + second + " after form " + first + ": " + call, Calls.answer(used, call), Calls.answer(fresh, call));
        }
    }

    /** Under 256 calls, so that an object sees fewer than 512: it fills the ROOM, thins it, fills it again, and looks. */
    private static List<String> use(int form, int words) {
        List<String> calls = new ArrayList<>();
        calls.add("open " + form + " " + words);
        for (int i = 0; i < 40; i++) {
            calls.add("give " + (1 + i * 7 % 12));
        }
        for (int i = 0; i < 40; i += 3) {
            calls.add("back " + i);
        }
        for (int i = 0; i < 12; i++) {
            calls.add("give " + (1 + i * 5 % 9));
            calls.add("count 8");
        }
        for (int what = 0; what < 12; what++) {
            calls.add("count " + what);
        }
        for (int i = 0; i < 16; i++) {
            calls.add("at " + (i < 12 ? i : words - 16 + i));
            calls.add("run " + i + " 0");
            calls.add("run " + i + " 1");
            calls.add("about " + (i + 30) + " 0");
        }
        for (int l = 0; l < 44; l++) {
            calls.add("list " + l + " 0");
        }
        return calls;
    }
}
