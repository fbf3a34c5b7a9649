import java.lang.reflect.Method;
import java.util.Arrays;

/** Calls by name, of a WheelStand and of a Model alike. */
final class Calls {
    private Calls() {
    }

    static int ask(Object of, String name, int... arguments) {
        for (Method method : of.getClass().getDeclaredMethods()) {
            if (method.getName().equals(name) && method.getParameterCount() == arguments.length) {
                return invoke(of, method, arguments);
            }
        }
        throw new IllegalArgumentException("no call " + name);
    }

    private static int invoke(Object of, Method method, int[] arguments) {
        try {
            return (Integer) method.invoke(of, Arrays.stream(arguments).boxed().toArray());
        } catch (ReflectiveOperationException e) {
            throw new IllegalStateException(method.getName() + Arrays.toString(arguments), e);
        }
    }

    /** Asks both, and answers whether they agree. */
    static boolean agree(String where, WheelStand x, Model m, String name, int... arguments) {
        int want = ask(m, name, arguments);
        int got = ask(x, name, arguments);
        Check.due(where + ": " + name + Arrays.toString(arguments), got, want);
        return got == want;
    }
}
