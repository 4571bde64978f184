import java.lang.reflect.Constructor;
import java.lang.reflect.Field;
import java.lang.reflect.Method;
import java.lang.reflect.Modifier;
import java.util.Set;
import java.util.TreeSet;

/** The public face is the document's, to the letter, and nothing else can be seen from outside. */
public final class FaceTest {
    private static final String ARGUMENT = " IllegalArgumentException";
    private static final String STATE = " IllegalStateException";
    private static final String INDEX = " IndexOutOfBoundsException";
    private static final String ELEMENT = " NoSuchElementException";

    public static void main(String[] args) {
        Calls.same("the class", Modifier.toString(RoomForms.class.getModifiers()), "public final");
        Set<String> due = new TreeSet<>(Set.of(
                "public RoomForms()",
                "public void open(2)" + ARGUMENT,
                "public int give(1)" + ARGUMENT + STATE + INDEX,
                "public int back(1)" + STATE + ELEMENT,
                "public int about(2)" + ARGUMENT + STATE + ELEMENT,
                "public int at(1)" + ARGUMENT + STATE,
                "public int run(2)" + ARGUMENT + STATE + INDEX,
                "public int list(2)" + ARGUMENT + STATE + " UnsupportedOperationException" + INDEX,
                "public int worst(3)" + ARGUMENT,
                "public int count(1)" + ARGUMENT));
        Calls.same("the face", seen().toString(), due.toString());
        Calls.end();
    }

    private static Set<String> seen() {
        Set<String> seen = new TreeSet<>();
        for (Field field : RoomForms.class.getDeclaredFields()) {
            if (!Modifier.isPrivate(field.getModifiers())) {
                seen.add(field.toString());
            }
        }
        for (Constructor<?> made : RoomForms.class.getDeclaredConstructors()) {
            seen.add(Modifier.toString(made.getModifiers()) + " " + made.getName() + "()");
        }
        for (Method method : RoomForms.class.getDeclaredMethods()) {
            if (!Modifier.isPrivate(method.getModifiers())) {
                seen.add(told(method));
            }
        }
        return seen;
    }

    private static String told(Method method) {
        StringBuilder text = new StringBuilder(Modifier.toString(method.getModifiers()));
        text.append(' ').append(method.getReturnType()).append(' ').append(method.getName());
        text.append('(').append(method.getParameterCount()).append(')');
        for (Class<?> thrown : method.getExceptionTypes()) {
            text.append(' ').append(thrown.getSimpleName());
        }
        return text.toString();
    }
}
