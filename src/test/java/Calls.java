import java.lang.reflect.Method;
import java.lang.reflect.Modifier;
import java.util.Arrays;
import java.util.Map;
import java.util.Set;
import java.util.TreeMap;

/** Calls by their names, so that tests can hold them in rows and print them as they were. */
final class Calls {
    private static final Map<String, Method> METHODS = new TreeMap<>();

    static {
        for (Method m : LogLetters.class.getDeclaredMethods()) {
            if (Modifier.isPublic(m.getModifiers())) {
                METHODS.put(m.getName(), m);
            }
        }
    }

    private Calls() { }

    static Set<String> names() {
        return METHODS.keySet();
    }

    static int call(LogLetters x, String name, int... args) {
        try {
            return (Integer) METHODS.get(name).invoke(x, (Object[]) Arrays.stream(args).boxed().toArray(Integer[]::new));
        } catch (ReflectiveOperationException e) {
            throw new IllegalStateException(told(name, args) + " did not answer", e);
        }
    }

    static String told(String name, int... args) {
        String row = Arrays.toString(args);
        return name + "(" + row.substring(1, row.length() - 1) + ")";
    }
}
