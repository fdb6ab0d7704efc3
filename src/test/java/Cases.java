import java.lang.reflect.InvocationTargetException;
import java.lang.reflect.Method;
import java.util.TreeMap;

/**
 * Runs the cases of a test class: its methods that take one Checks, each named after the promise and the
 * case. They are found by themselves, so that none can be left out.
 */
final class Cases {
    private static final String NAME = "(terms|face|promise(0[1-9]|1[0-9]|2[0-2]))_.+";

    private Cases() {
    }

    static void run(Class<?> tests) throws IllegalAccessException {
        int cases = 0;
        int failed = 0;
        for (Method method : byName(tests).values()) {
            cases++;
            if (!holds(tests.getSimpleName() + "." + method.getName(), method)) {
                failed++;
                System.out.println("FAILED: " + tests.getSimpleName() + "." + method.getName());
            }
        }
        System.out.println(tests.getSimpleName() + ": " + cases + " cases, " + failed + " failed");
        if (failed > 0 || cases == 0) {
            System.exit(1);
        }
    }

    private static TreeMap<String, Method> byName(Class<?> tests) {
        TreeMap<String, Method> found = new TreeMap<>();
        for (Method method : tests.getDeclaredMethods()) {
            Class<?>[] takes = method.getParameterTypes();
            if (takes.length == 1 && takes[0] == Checks.class) {
                found.put(method.getName(), method);
            }
        }
        return found;
    }

    /** A case that asks nothing, or has no promise in its name, does not hold. */
    private static boolean holds(String name, Method method) throws IllegalAccessException {
        Checks checks = new Checks(name);
        try {
            method.invoke(null, checks);
        } catch (InvocationTargetException e) {
            System.out.println(name + " ended by " + e.getCause());
            return false;
        }
        return method.getName().matches(NAME) && checks.allWereDue();
    }
}
