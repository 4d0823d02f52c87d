import java.lang.reflect.Constructor;
import java.lang.reflect.Field;
import java.lang.reflect.Method;
import java.lang.reflect.Modifier;
import java.util.Arrays;
import java.util.Set;
import java.util.TreeSet;

/** The class shows the document's face and nothing beside it. */
public final class FaceTest {
    private static final String NO_ELEMENT = " java.util.NoSuchElementException";
    private static final String BOUNDS = " java.lang.IndexOutOfBoundsException";
    private static final String STATE = " java.lang.IllegalStateException";

    private static final Set<String> FACE = new TreeSet<>(Arrays.asList(
        "int spawn[]" + STATE,
        "int fork[int]" + NO_ELEMENT + STATE,
        "int exit[int]" + NO_ELEMENT,
        "boolean drop[int, int]" + NO_ELEMENT + BOUNDS,
        "int load[int, int]" + NO_ELEMENT + BOUNDS,
        "void store[int, int, int]" + NO_ELEMENT + BOUNDS + STATE,
        "void copy[int, int, int, int]" + NO_ELEMENT + BOUNDS + STATE,
        "int copied[]",
        "int where[int, int]",
        "int sharers[int, int]",
        "boolean isThere[int]",
        "boolean marked[int]",
        "int hand[]",
        "int freeFrames[]",
        "int freeSlots[]",
        "int faults[]",
        "int evicted[]"));

    public static void main(String[] args) throws Exception {
        Checks checks = new Checks();
        Class<?> face = ForkedSheets.class;
        checks.due("modifiers", "public final", Modifier.toString(face.getModifiers()));

        Set<String> methods = new TreeSet<>();
        Set<String> publicNames = new TreeSet<>();
        for (Method m : face.getDeclaredMethods()) {
            if (!Modifier.isPrivate(m.getModifiers())) {
                methods.add(signature(m));
                publicNames.add(m.getName());
                checks.due(m + " is", "public", Modifier.toString(m.getModifiers()));
            }
        }
        checks.due("methods", FACE, methods);
        for (Method m : face.getDeclaredMethods()) {
            boolean clash = Modifier.isPrivate(m.getModifiers()) && publicNames.contains(m.getName());
            checks.due(m + " bears a public method's name", false, clash);
        }

        Set<String> fields = new TreeSet<>();
        for (Field f : face.getDeclaredFields()) {
            if (!Modifier.isPrivate(f.getModifiers())) {
                fields.add(f.toString());
            }
        }
        checks.due("fields", "[public static final int ForkedSheets.EMPTY]", fields.toString());
        checks.due("EMPTY", -1, ForkedSheets.EMPTY);

        Constructor<?>[] constructors = face.getDeclaredConstructors();
        checks.due("constructors", "[public ForkedSheets(int,int)]", Arrays.toString(constructors));
        checks.end();
    }

    private static String signature(Method m) {
        StringBuilder s = new StringBuilder();
        s.append(m.getReturnType().getSimpleName()).append(' ').append(m.getName());
        String[] parameters = Arrays.stream(m.getParameterTypes())
            .map(Class::getSimpleName).toArray(String[]::new);
        s.append(Arrays.toString(parameters));
        for (Class<?> e : m.getExceptionTypes()) {
            s.append(' ').append(e.getName());
        }
        return s.toString();
    }
}
