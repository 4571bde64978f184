import java.util.Map;
import java.util.Set;

/**
 * Whatever numbers come, in whatever state, and long after the 512th call: nothing is thrown but
 * what the document names for the call, of that very class, so that the machine itself never throws.
 */
public final class HardUseTest {
    private static final int[] NUMBERS = {Integer.MIN_VALUE, Integer.MIN_VALUE + 1, -1024, -2, -1, 0, 1, 2, 3, 4, 7, 8, 9, 10,
        12, 13, 15, 16, 31, 32, 33, 43, 44, 64, 100, 199, 200, 201, 512, 1023, 1024, 1025, 65536, Integer.MAX_VALUE - 1, Integer.MAX_VALUE};
    private static final String[] CALLS = {"open", "give", "give", "give", "back", "about", "at", "run", "list", "worst", "count"};
    private static final Map<String, Integer> PARTS = Map.of("open", 2, "give", 1, "back", 1, "about", 2, "at", 1, "run", 2,
            "list", 2, "worst", 3, "count", 1);
    private static final Map<String, Set<String>> ALLOWED = Map.of(
            "open", Set.of("IllegalArgumentException"),
            "give", Set.of("IllegalArgumentException", "IllegalStateException", "IndexOutOfBoundsException"),
            "back", Set.of("IllegalStateException", "NoSuchElementException"),
            "about", Set.of("IllegalArgumentException", "IllegalStateException", "NoSuchElementException"),
            "at", Set.of("IllegalArgumentException", "IllegalStateException"),
            "run", Set.of("IllegalArgumentException", "IllegalStateException", "IndexOutOfBoundsException"),
            "list", Set.of("IllegalArgumentException", "IllegalStateException", "UnsupportedOperationException", "IndexOutOfBoundsException"),
            "worst", Set.of("IllegalArgumentException"),
            "count", Set.of("IllegalArgumentException"));

    private static long state = 99;

    public static void main(String[] args) {
        anyNumbers();
        for (int form = 0; form < 10; form++) {
            longUse(form);
        }
        Calls.end();
    }

    private static int below(int bound) {
        state = state * 6364136223846793005L + 1442695040888963407L;
        return (int) ((state >>> 33) % bound);
    }

    private static void anyNumbers() {
        for (int object = 0; object < 60; object++) {
            RoomForms forms = new RoomForms();
            for (int i = 0; i < 1500; i++) {
                String name = CALLS[below(CALLS.length)];
                StringBuilder call = new StringBuilder(name);
                for (int p = 0; p < PARTS.get(name); p++) {
                    call.append(' ').append(below(3) == 0 ? below(60) : NUMBERS[below(NUMBERS.length)]);
                }
                hold(forms, name, call.toString());
            }
        }
    }

    private static void longUse(int form) {
        RoomForms forms = new RoomForms();
        forms.open(form, 1024 - form);
        for (int i = 0; i < 20000; i++) {
            int given = forms.count(3);
            boolean gives = below(100) < (i / 1000 % 2 == 0 ? 70 : 30);
            String call = gives ? "give " + (1 + below(i / 2000 % 2 == 0 ? 2 : 20)) : "back " + Math.max(0, given - 1 - below(250));
            hold(forms, gives ? "give" : "back", call);
        }
    }

    private static void hold(RoomForms forms, String name, String call) {
        String got = Calls.answer(forms, call);
        boolean thrown = !got.equals("null") && !got.matches("-?[0-9]+");
        Calls.same(call + " throws " + got + ", which is allowed", String.valueOf(!thrown || ALLOWED.get(name).contains(got)), "true");
    }
}
