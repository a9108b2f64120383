import java.lang.reflect.Constructor;
import java.lang.reflect.Field;
import java.lang.reflect.Method;
import java.lang.reflect.Modifier;
import java.util.Set;
import java.util.TreeSet;

/** The public face has all that the document names, and nothing beside it. */
final class FaceTest {
    private static final String INDEX = " throws IndexOutOfBoundsException";
    private static final String ARGUMENT = " throws IllegalArgumentException";
    private static final Set<String> METHODS = Set.of(
            "void put(int, int, int, int, int, int)" + INDEX + ", IllegalArgumentException",
            "int poke(int, int)" + INDEX, "int peek(int)" + INDEX,
            "int set(int, int)" + INDEX, "int register(int)" + INDEX,
            "void start(int)" + INDEX, "int handler(int)" + INDEX,
            "int cycles(int)" + ARGUMENT, "int stage(int)" + INDEX,
            "int counter(int)" + INDEX, "int retired(int)" + INDEX,
            "int count(int)" + ARGUMENT, "float pace()");

    public static void main(String[] args) throws ReflectiveOperationException {
        Check check = new Check();
        check.same("modifiers of the class", Modifier.toString(StageChip.class.getModifiers()), "public final");
        check.same("methods", openMethods().toString(), new TreeSet<>(METHODS).toString());
        check.same("constants", openFields().toString(),
                "[FETCHED = 0, MEMORY = 3, NONE = -1, REACHED = 2, READ = 1, WRITTEN = 4]");
        Constructor<?>[] constructors = StageChip.class.getDeclaredConstructors();
        check.same("constructors", constructors.length, 1);
        check.same("parameters of the constructor", constructors[0].getParameterCount(), 0);
        check.same("modifiers of the constructor", Modifier.toString(constructors[0].getModifiers()), "public");
        check.end();
    }

    private static Set<String> openMethods() {
        Set<String> found = new TreeSet<>();
        for (Method method : StageChip.class.getDeclaredMethods()) {
            if (!Modifier.isPrivate(method.getModifiers())) {
                found.add(told(method));
            }
        }
        return found;
    }

    private static String told(Method method) {
        String parameters = names(method.getParameterTypes());
        String thrown = names(method.getExceptionTypes());
        return method.getReturnType().getSimpleName() + " " + method.getName() + "(" + parameters + ")"
                + (thrown.isEmpty() ? "" : " throws " + thrown);
    }

    private static String names(Class<?>[] types) {
        StringBuilder joined = new StringBuilder();
        for (Class<?> type : types) {
            joined.append(joined.length() == 0 ? "" : ", ").append(type.getSimpleName());
        }
        return joined.toString();
    }

    private static Set<String> openFields() throws IllegalAccessException {
        Set<String> found = new TreeSet<>();
        for (Field field : StageChip.class.getDeclaredFields()) {
            if (!Modifier.isPrivate(field.getModifiers())) {
                found.add(field.getName() + " = " + field.get(null));
            }
        }
        return found;
    }
}
