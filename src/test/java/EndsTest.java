import java.lang.reflect.InvocationTargetException;
import java.lang.reflect.Method;
import java.lang.reflect.Modifier;
import java.util.List;
import java.util.function.Supplier;

/** Promises 2 to 36: whatever the arguments are, up to the ends of int and long, no call throws. */
public final class EndsTest {
    private static final int[] NUMBERS = {Integer.MIN_VALUE, Integer.MIN_VALUE + 1, -61, -1, 0, 1, 4, 5, 59, 60, 61,
        Integer.MAX_VALUE - 1, Integer.MAX_VALUE};
    private static final long[] LONG_NUMBERS = {Long.MIN_VALUE, -1, 0, 20, Long.MAX_VALUE};
    /** An object is made anew behind so many calls. */
    private static final int CALLS = 200;

    public static void main(String[] args) throws Exception {
        for (Supplier<PermitBank> maker : List.<Supplier<PermitBank>>of(Banks::empty, Banks::middle, Banks::full)) {
            for (Method m : PermitBank.class.getDeclaredMethods()) {
                if (Modifier.isPublic(m.getModifiers())) {
                    sweep(maker, m);
                }
            }
        }
        Check.end();
    }

    private static void sweep(Supplier<PermitBank> maker, Method m) throws Exception {
        int[] at = new int[m.getParameterCount()];
        PermitBank x = maker.get();
        int calls = 0;
        boolean more = true;
        while (more) {
            if (calls % CALLS == 0) {
                x = maker.get();
            }
            call(x, m, arguments(m, at));
            calls++;
            more = next(m, at);
        }
        Check.holds(m.getName() + " was called", calls > 0);
    }

    private static int many(Method m, int parameter) {
        return m.getParameterTypes()[parameter] == long.class ? LONG_NUMBERS.length : NUMBERS.length;
    }

    private static boolean next(Method m, int[] at) {
        for (int k = 0; k < at.length; k++) {
            at[k] = (at[k] + 1) % many(m, k);
            if (at[k] != 0) {
                return true;
            }
        }
        return false;
    }

    private static Object[] arguments(Method m, int[] at) {
        Object[] all = new Object[at.length];
        for (int k = 0; k < at.length; k++) {
            boolean isLong = m.getParameterTypes()[k] == long.class;
            all[k] = isLong ? (Object) LONG_NUMBERS[at[k]] : (Object) NUMBERS[at[k]];
        }
        return all;
    }

    private static void call(PermitBank x, Method m, Object[] arguments) throws IllegalAccessException {
        try {
            m.invoke(x, arguments);
        } catch (InvocationTargetException e) {
            Check.holds(m.getName() + List.of(arguments) + " threw " + e.getCause(), false);
        }
    }
}
