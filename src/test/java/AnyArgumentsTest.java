import java.lang.reflect.InvocationTargetException;
import java.lang.reflect.Method;
import java.lang.reflect.Modifier;
import java.util.Arrays;
import java.util.List;

/**
 * Any arguments in any state: a call answers, or throws by its own throw statement (which tells no message; the
 * machine's own exceptions do) what its face says.
 */
public final class AnyArgumentsTest {
    private static final int[] ODD = {Integer.MIN_VALUE, -97, -3, -2, -1, 0, 1, 2, 6, 7, 8, 9, 10, 12, 13, 15, 16, 20,
        29, 30, 31, 48, 49, 80, 81, 95, 96, 99, 100, 400, 999, 1000, 2059, 3000, Integer.MAX_VALUE};
    private static final int CALLS = 380;

    public static void main(String[] args) throws Exception {
        for (Method method : PlateTown.class.getDeclaredMethods()) {
            if (Modifier.isPublic(method.getModifiers())) {
                tryOut(method, false);
                tryOut(method, true);
            }
        }
        Due.close();
    }

    private static PlateTown fullTown() {
        PlateTown x = Due.town("house 0 1;house 8 30;house 72 9;house 80 2;house 40 30;house 41 30;house 31 7;"
                + "house 30 3;house 22 4;house 13 1;rate 20;bar 95", "window 9 7 29" + ";window 4 4 0".repeat(11));
        for (String lease : List.of("pay 999*light if not (noon or 1+year<turn)", "", "void", "void if frost",
                "less 1*level;pay 1*height", "pay 1 if ((((((windy))))))")) {
            Due.lease(x, lease);
        }
        for (int i = 0; i < 16; i++) {
            x.let(i % 6, i % 10, i, 99 - i);
            x.promise(i % 12, i, 99 - i);
            x.paper(i % 12, i % 13, i % 3 == 0);
        }
        for (int i = 0; i < 8; i++) {
            x.drain(10 * i, 80 - i);
        }
        for (int i = 0; i < 20; i++) {
            x.build(0, 1);
        }
        return x;
    }

    private static void tryOut(Method method, boolean isFull) throws Exception {
        PlateTown x = null;
        Class<?>[] kinds = method.getParameterTypes();
        int seed = 7;
        for (int call = 0; call < 4 * CALLS; call++) {
            if (call % CALLS == 0) {
                x = isFull ? fullTown() : new PlateTown();
            }
            Object[] args = new Object[kinds.length];
            for (int i = 0; i < args.length; i++) {
                seed = seed * 1103515245 + 12345;
                int drawn = seed >>> 16;
                args[i] = kinds[i] == boolean.class ? (Object) (drawn % 2 == 0) : (Object) ODD[drawn % ODD.length];
            }
            if (!isDue(method, x, args)) {
                return;
            }
        }
    }

    private static boolean isDue(Method method, PlateTown x, Object[] args) throws Exception {
        try {
            method.invoke(x, args);
            return true;
        } catch (InvocationTargetException e) {
            Throwable thrown = e.getCause();
            boolean isTold = Arrays.asList(method.getExceptionTypes()).contains(thrown.getClass())
                    && thrown.getMessage() == null;
            Due.is(method.getName() + Arrays.toString(args) + " threw " + thrown + ": it is told", true, isTold);
            return isTold;
        }
    }
}
