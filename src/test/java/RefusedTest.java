/**
 * "A call that throws changes nothing." Two objects get the same calls, and one of them calls that are
 * refused between each two: whatever both are asked, both answer the same.
 */
public final class RefusedTest {
    /** Each is refused in every form and in every ROOM of 40 words, whatever is in it. */
    private static final String[] REFUSED = {
        "open -1 40", "open 10 16", "open 3 15", "open 9 1025", "open 2147483647 -2147483648",
        "give 0", "give -1", "give 1025", "give -2147483648",
        "back -1", "back 100", "back 2147483647",
        "about 0 -1", "about 0 3", "about 100 0", "about -1 2",
        "at -1", "at 40", "at 1023",
        "run 0 -1", "run 0 2", "run 41 0", "run -1 1",
        "list -1 0", "list 44 0", "list 43 0", "list 0 50",
        "worst -1 1 1", "worst 4 1 1", "worst 0 0 1", "worst 0 5 8", "worst 0 1 0", "worst 0 1 9", "worst 0 3 2",
        "count -1", "count 13",
    };
    private static final String[] USE = {
        "give 5", "give 8", "give 3", "give 9", "give 1", "back 1", "back 3", "give 2", "give 7", "back 0", "give 30", "give 4", "back 2",
        "give 1", "back 4", "give 6", "give 40", "give 5", "back 5", "give 3", "worst 0 1 2", "give 1",
    };

    private final RoomForms plain = new RoomForms();
    private final RoomForms refusing = new RoomForms();
    private final String name;
    private int next = 0;

    private RefusedTest(String name) {
        this.name = name;
    }

    public static void main(String[] args) {
        for (int form = 0; form < 10; form++) {
            // Each round begins at another refused call, so that each stands between many calls.
            for (int round = 0; round < REFUSED.length; round++) {
                new RefusedTest("form " + form).play(form, round);
            }
            twoHundred(form);
        }
        withoutRoom();
        Calls.end();
    }

    private void play(int form, int round) {
        next = round;
        both("open " + form + " 40");
        for (String call : USE) {
            refuse();
            both(call);
            both("count 8");
        }
        for (int word = 0; word < 40; word++) {
            both("at " + word);
        }
        for (int what = 0; what < 13; what++) {
            both("count " + what);
        }
        for (int i = 0; i < 20; i++) {
            both("run " + i + " 0");
            both("run " + i + " 1");
        }
        for (int l = 0; l < 24; l++) {
            both("list " + l + " 0");
            both("list " + l + " 1");
        }
    }

    private void both(String call) {
        Calls.same(name + ": " + call + " behind a refused call", Calls.answer(refusing, call), Calls.answer(plain, call));
    }

    private void refuse() {
        String call = REFUSED[next % REFUSED.length];
        next++;
        String got = Calls.answer(refusing, call);
        Calls.same(name + ": " + call + " is refused", String.valueOf(got.endsWith("Exception")), "true");
    }

    /** The ask that would be the 201st BLOCK leaves everything: in form 9 the QUICK rows too. */
    private static void twoHundred(int form) {
        Calls calls = Calls.on("200 BLOCKS, form " + form, "open " + form + " 1024; give 2 = 0");
        for (int i = 1; i < 201; i++) {
            calls.then(i == 100 ? "back 0 = 0; give 1 = 100" : "give 1 = " + i);
        }
        RoomForms twin = new RoomForms();
        twin.open(form, 1024);
        twin.give(2);
        for (int i = 1; i < 201; i++) {
            if (i == 100) {
                twin.back(0);
            }
            twin.give(1);
        }
        calls.then("give 1 ! IndexOutOfBoundsException; give 1024 ! IndexOutOfBoundsException; count 2 = 200; count 3 = 201");
        for (int what = 4; what < 12; what++) {
            calls.then("count " + what + " = " + twin.count(what));
        }
        calls.then("back 150 = " + twin.back(150) + "; give 2 = " + twin.give(2) + "; about 201 0 = " + twin.about(201, 0));
    }

    private static void withoutRoom() {
        RoomForms forms = new RoomForms();
        for (String call : REFUSED) {
            String got = Calls.answer(forms, call);
            Calls.same("without ROOM " + call + " is refused", String.valueOf(got.endsWith("Exception")), "true");
            Calls.same("without ROOM, after " + call, Calls.answer(forms, "count 0"), "-1");
        }
    }
}
