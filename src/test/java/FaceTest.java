import java.lang.reflect.Constructor;
import java.lang.reflect.Field;
import java.lang.reflect.Method;
import java.lang.reflect.Modifier;
import java.util.Arrays;
import java.util.Set;
import java.util.TreeSet;

/** Rule 1 of LANGUAGE.md: the class shows the document's face and nothing else. */
public final class FaceTest {
    private static final String FACE = "[assemble(int) int, count(int) int, describe(int) int, "
            + "encode(int, long, long, long, long, long, long) int, feed(int, int, int, int, int) int, "
            + "letters(int) long, op(int) int, operand(int, int) long, text(int) int, word(int) int, wrong() int]";

    public static void main(String[] args) {
        Set<String> seen = new TreeSet<>();
        Set<String> names = new TreeSet<>();
        for (Method method : OpForge.class.getDeclaredMethods()) {
            if (!Modifier.isPrivate(method.getModifiers())) {
                String types = Arrays.toString(method.getParameterTypes());
                String inside = types.substring(1, types.length() - 1);
                seen.add(method.getName() + "(" + inside + ") " + method.getReturnType());
                names.add(method.getName());
            }
        }
        Bench.due(FACE, seen.toString(), "the methods that can be seen");
        for (Field field : OpForge.class.getDeclaredFields()) {
            Bench.due("true", String.valueOf(Modifier.isPrivate(field.getModifiers())), "private: " + field);
        }
        for (Constructor<?> constructor : OpForge.class.getDeclaredConstructors()) {
            Bench.due("public OpForge()", constructor.toString(), "constructor");
        }
        for (Class<?> inside : OpForge.class.getDeclaredClasses()) {
            for (Method method : inside.getDeclaredMethods()) {
                Bench.due("false", String.valueOf(names.contains(method.getName())), "a public name again: " + method);
            }
        }
        Bench.end();
    }
}
