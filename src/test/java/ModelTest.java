import java.lang.reflect.InvocationTargetException;
import java.lang.reflect.Method;

/** All promises: mixed runs answer as the model does, call for call, wrong inputs among them. */
public final class ModelTest {
    private static final int RUNS = 400;
    private static final int CALLS_OF_A_RUN = 250;
    private static final int[] WILD = {-1, 4, 5, 6, 7, 16, 17, -16, 32, Integer.MIN_VALUE, Integer.MAX_VALUE};

    /** Each call by its name and, for each argument, the bound of the usual numbers. */
    private static final Object[][] CALLS = {
        {"go", 5, 17, 2}, {"go", 5, 1, 2}, {"falseCut", 16}, {"comes", 5, 17, 16}, {"comes", 5, 1, 16},
        {"card", 16}, {"find", 16}, {"watch", 2}, {"glimpse", 4, 16}, {"thinks", 4, 16}, {"sure", 4, 16},
        {"watcher", 4, 6}, {"sit", 16}, {"fan", 16}, {"take", 4}, {"force", 4, 16}, {"took", 4},
        {"count", 7}, {"back", 5, 17}, {"back", 5, 1}, {"bring", 16, 16}, {"riffles", 16, 16}, {"mean"}, {"digest"},
    };
    private static final Object[] GLIMPSE = {"glimpse", 4, 16};

    private static long drawn = 20261119L;

    public static void main(String[] args) throws ReflectiveOperationException {
        Checks checks = new Checks("ModelTest");
        for (int run = 0; run < RUNS; run++) {
            CardFans x = new CardFans();
            Model model = new Model();
            // In some runs much is glimpsed and little hidden, so that watchers come to know the pack.
            boolean isQuiet = run % 3 == 0;
            for (int n = 0; n < CALLS_OF_A_RUN; n++) {
                Object[] call = isQuiet && draw(3) > 0 ? GLIMPSE : CALLS[draw(CALLS.length)];
                Object[] arguments = arguments(call, isQuiet);
                String want = answer(model, call, arguments);
                String got = answer(x, call, arguments);
                String name = "run " + run + ", call " + n + ": " + call[0] + java.util.Arrays.toString(arguments);
                checks.that(name + " answered " + got + ", the model " + want, got.equals(want));
                checks.due(name + ", the digest then", model.digest(), x.digest());
            }
        }
        checks.end();
    }

    private static Object[] arguments(Object[] call, boolean isQuiet) {
        Object[] arguments = new Object[call.length - 1];
        for (int k = 0; k < arguments.length; k++) {
            boolean isFlag = typeOf(call, k) == boolean.class;
            arguments[k] = isFlag ? (Object) (draw(isQuiet ? 12 : 2) > 0) : (Object) number((int) call[k + 1]);
        }
        return arguments;
    }

    private static Class<?> typeOf(Object[] call, int k) {
        boolean isFlag = call[0].equals("go") && k == 2 || call[0].equals("watch");
        return isFlag ? boolean.class : int.class;
    }

    private static String answer(Object asked, Object[] call, Object[] arguments) throws ReflectiveOperationException {
        Class<?>[] types = new Class<?>[arguments.length];
        for (int k = 0; k < types.length; k++) {
            types[k] = typeOf(call, k);
        }
        Method method = asked.getClass().getDeclaredMethod((String) call[0], types);
        try {
            return "" + method.invoke(asked, arguments);
        } catch (InvocationTargetException e) {
            return e.getCause().getClass().getName();
        }
    }

    private static int draw(int bound) {
        drawn = drawn * 6364136223846793005L + 1442695040888963407L;
        return (int) ((drawn >>> 33) % bound);
    }

    private static int number(int bound) {
        return draw(25) == 0 ? WILD[draw(WILD.length)] : draw(bound);
    }
}
