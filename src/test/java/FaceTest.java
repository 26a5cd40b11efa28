import java.lang.reflect.Constructor;
import java.lang.reflect.Field;
import java.lang.reflect.Method;
import java.lang.reflect.Modifier;
import java.util.Arrays;
import java.util.List;
import java.util.Set;
import java.util.TreeSet;
import java.util.stream.Collectors;

/** "The public face" of the document, and rule 1 of LANGUAGE.md: the class shows that face and nothing else. */
public final class FaceTest {
    private static final List<String> FACE = List.of(
            "public int feed(int, int, int, int, int) throws IndexOutOfBoundsException",
            "public int describe(int) throws IndexOutOfBoundsException, IllegalArgumentException",
            "public int assemble(int) throws IndexOutOfBoundsException, IllegalStateException, IllegalArgumentException",
            "public int wrong()",
            "public int word(int) throws IndexOutOfBoundsException",
            "public int op(int) throws IllegalStateException",
            "public long operand(int, int) throws IllegalStateException, IndexOutOfBoundsException",
            "public int encode(int, long, long, long, long, long, long)"
                    + " throws IllegalStateException, IndexOutOfBoundsException, IllegalArgumentException",
            "public int text(int) throws IllegalStateException",
            "public long letters(int) throws IndexOutOfBoundsException",
            "public int count(int) throws IllegalArgumentException");

    public static void main(String[] args) {
        theClass();
        methods();
        fieldsAndConstructors();
        namesAndClassesInside();
        Bench.end();
    }

    private static void theClass() {
        Bench.due("public final", Modifier.toString(OpForge.class.getModifiers()), "modifiers of the class");
        Bench.due("", OpForge.class.getPackageName(), "its package");
        Bench.due(Object.class.getName(), OpForge.class.getSuperclass().getName(), "its superclass");
        Bench.due(0, String.valueOf(OpForge.class.getInterfaces().length), "its interfaces");
    }

    private static void methods() {
        Set<String> seen = new TreeSet<>();
        for (Method method : OpForge.class.getDeclaredMethods()) {
            if (!Modifier.isPrivate(method.getModifiers())) {
                seen.add(Modifier.toString(method.getModifiers()) + " " + method.getReturnType() + " " + method.getName()
                        + "(" + listed(method.getParameterTypes()) + ")"
                        + (method.getExceptionTypes().length == 0 ? "" : " throws " + listed(method.getExceptionTypes())));
            }
        }
        Bench.due(new TreeSet<>(FACE).toString(), seen.toString(), "the methods that can be seen");
    }

    private static String listed(Class<?>[] types) {
        return Arrays.stream(types).map(Class::getSimpleName).collect(Collectors.joining(", "));
    }

    private static void fieldsAndConstructors() {
        for (Field field : OpForge.class.getDeclaredFields()) {
            Bench.due("true", String.valueOf(Modifier.isPrivate(field.getModifiers())), "private: " + field);
        }
        for (Constructor<?> constructor : OpForge.class.getDeclaredConstructors()) {
            Bench.due("public OpForge()", constructor.toString(), "constructor");
        }
    }

    /** "No private method bears the name of a public one." */
    private static void namesAndClassesInside() {
        Set<String> names = new TreeSet<>();
        for (Method method : OpForge.class.getDeclaredMethods()) {
            if (Modifier.isPublic(method.getModifiers())) {
                names.add(method.getName());
            }
        }
        for (Method method : OpForge.class.getDeclaredMethods()) {
            boolean again = !Modifier.isPublic(method.getModifiers()) && names.contains(method.getName());
            Bench.due("false", String.valueOf(again), "a public name again: " + method);
        }
        for (Class<?> inside : OpForge.class.getDeclaredClasses()) {
            boolean hidden = !Modifier.isPublic(inside.getModifiers()) && !Modifier.isProtected(inside.getModifiers());
            Bench.due("true", String.valueOf(hidden && Modifier.isStatic(inside.getModifiers())), "hidden and static: " + inside);
            for (Method method : inside.getDeclaredMethods()) {
                Bench.due("false", String.valueOf(names.contains(method.getName())), "a public name again: " + method);
            }
        }
    }
}
