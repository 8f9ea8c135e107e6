import java.lang.reflect.Constructor;
import java.lang.reflect.Field;
import java.lang.reflect.Method;
import java.lang.reflect.Modifier;
import java.util.ArrayList;
import java.util.Collections;
import java.util.List;

/** The public face, and that nothing else can be seen from outside. */
public final class FaceTest {
    public static void main(String[] args) {
        Check check = new Check();
        List<String> seen = new ArrayList<>();
        for (Field field : ListSpeaker.class.getDeclaredFields()) {
            note(seen, field.getModifiers(), field.toString());
        }
        for (Constructor<?> constructor : ListSpeaker.class.getDeclaredConstructors()) {
            note(seen, constructor.getModifiers(), constructor.toString());
        }
        for (Method method : ListSpeaker.class.getDeclaredMethods()) {
            note(seen, method.getModifiers(), method.toString());
        }
        Collections.sort(seen);
        check.due("what can be seen", String.join("\n", seen), String.join("\n",
            "public ListSpeaker(int)",
            "public boolean ListSpeaker.type(char)",
            "public char ListSpeaker.output(int) throws java.lang.IndexOutOfBoundsException",
            "public int ListSpeaker.clear()",
            "public int ListSpeaker.count(int)",
            "public int ListSpeaker.run(int) throws java.lang.IllegalArgumentException",
            "public static final int ListSpeaker.NONE"));
        check.due("final", Modifier.isFinal(ListSpeaker.class.getModifiers()), true);
        for (Class<?> inner : ListSpeaker.class.getDeclaredClasses()) {
            check.due(inner + " is static", Modifier.isStatic(inner.getModifiers()), true);
            check.due(inner + " is public", Modifier.isPublic(inner.getModifiers()), false);
        }
        check.end();
    }

    private static void note(List<String> seen, int modifiers, String text) {
        if (!Modifier.isPrivate(modifiers)) {
            seen.add(text);
        }
    }
}
