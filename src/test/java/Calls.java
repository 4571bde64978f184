import java.lang.reflect.InvocationTargetException;
import java.lang.reflect.Method;

/**
 * Runs calls on one new object of RoomForms and holds each answer against the one that is due.
 * Calls are written as text, each ended by a semicolon or its line: "give 5 = 0" for an answer,
 * "give 0 ! IllegalArgumentException" for what is thrown, "open 0 16" for a call that just ends.
 * The Model is asked the same, so that what was worked out by hand holds it too.
 */
final class Calls {
    private static int wrong = 0;
    private static int told = 0;

    private final RoomForms forms = new RoomForms();
    private final Model model = new Model();
    private final String name;

    private Calls(String name) {
        this.name = name;
    }

    /** A new object on which the calls of a text are run. */
    static Calls on(String name, String text) {
        return new Calls(name).then(text);
    }

    Calls then(String text) {
        for (String call : text.split("[;\n]")) {
            if (!call.isBlank()) {
                hold(call.trim());
            }
        }
        return this;
    }

    private void hold(String call) {
        int mark = Math.max(call.indexOf('='), call.indexOf('!'));
        String asked = mark < 0 ? call : call.substring(0, mark).trim();
        String due = mark < 0 ? "null" : call.substring(mark + 1).trim();
        same(name + ": " + asked, answer(forms, asked), due);
        same("the Model, " + name + ": " + asked, answer(model, asked), due);
    }

    /** Holds what was got against what is due. */
    static void same(String what, String got, String due) {
        told++;
        if (!got.equals(due)) {
            wrong++;
            if (wrong <= 40) {
                System.out.println(what + " answered " + got + ", due is " + due);
            }
        }
    }

    /** What a call answers, or the simple name of the very class that it throws. */
    static String answer(Object forms, String call) {
        String[] parts = call.split(" +");
        Object[] numbers = new Object[parts.length - 1];
        for (int i = 0; i < numbers.length; i++) {
            numbers[i] = Integer.valueOf(parts[i + 1]);
        }
        try {
            return String.valueOf(method(forms, parts[0]).invoke(forms, numbers));
        } catch (InvocationTargetException e) {
            return e.getCause().getClass().getSimpleName();
        } catch (IllegalAccessException e) {
            throw new IllegalStateException("the test cannot call " + call, e);
        }
    }

    private static Method method(Object forms, String name) {
        for (Method method : forms.getClass().getDeclaredMethods()) {
            if (method.getName().equals(name)) {
                return method;
            }
        }
        throw new IllegalStateException("the test names no call: " + name);
    }

    /** Ends a test: with exit code 1 if an answer was wrong, or if nothing was asked at all. */
    static void end() {
        System.out.println(told + " answers held, " + wrong + " wrong");
        if (wrong > 0 || told == 0) {
            System.exit(1);
        }
    }
}
