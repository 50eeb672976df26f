import java.lang.reflect.InvocationTargetException;
import java.lang.reflect.Method;
import java.util.Arrays;

/** No call throws, whatever it is given in whatever state; what is far beyond all limits is BAD or NONE. */
public final class WrongInputsTest {
    private static final int[] ODD = {Integer.MIN_VALUE, Integer.MIN_VALUE + 1, -1000000, -10, -9, -2, -1, 0, 1, 2, 3, 4,
        5, 6, 7, 10, 11, 23, 24, 25, 119, 120, 255, 256, 299, 300, 301, 1 << 30, Integer.MAX_VALUE - 1,
        Integer.MAX_VALUE};
    private static final String[] TEXTS = {"", "w1 1;", "w3 2;k0 0 0 0 0 9;", "k0 0 0 1 0 9;k1 1 0 0 1 2;e0;m1;w3 1;",
        "k0 0 0 1 0 1;k0 0 0 1 1 1;k0 0 0 1 2 1;k0 0 0 1 3 1;k0 0 0 1 4 1;k0 0 0 1 5 1;w3 2;s1 1;"};
    private static final Due DUE = new Due();

    public static void main(String[] args) throws IllegalAccessException {
        for (String text : TEXTS) {
            for (Method m : QuiltPatches.class.getDeclaredMethods()) {
                if ((m.getModifiers() & 1) == 1) {
                    allOdd(text, m);
                    farBeyond(text, m);
                }
            }
        }
        DUE.end("WrongInputsTest");
    }

    private static QuiltPatches half(String text) {
        QuiltPatches x = Due.told(text);
        for (int s = 0; s < 3; s++) {
            x.lays(s, 4 * s);
            x.lays(s, s);
        }
        x.keep(0);
        return x;
    }

    private static void allOdd(String text, Method m) throws IllegalAccessException {
        int n = m.getParameterCount();
        QuiltPatches x = half(text);
        int combinations = (int) Math.pow(ODD.length, n);
        for (int i = 0; i < combinations; i++) {
            Object[] args = new Object[n];
            int rest = i;
            for (int p = 0; p < n; p++) {
                args[p] = ODD[rest % ODD.length];
                rest /= ODD.length;
            }
            if (i % 400 == 0) {
                x = half(text);
            }
            ask(x, m, args);
        }
    }

    private static void farBeyond(String text, Method m) throws IllegalAccessException {
        for (int p = 0; p < m.getParameterCount(); p++) {
            for (int far : new int[] {Integer.MIN_VALUE, Integer.MAX_VALUE}) {
                Object[] args = new Object[m.getParameterCount()];
                Arrays.fill(args, 1);
                args[p] = far;
                int got = ask(half(text), m, args);
                boolean countedOn = far > 0 && (m.getName().equals("left") && p == 1 || m.getName().equals("hue") && p == 0);
                DUE.holds(m.getName() + Arrays.toString(args) + " answered " + got,
                    got == QuiltPatches.BAD || countedOn && (got == QuiltPatches.NONE || got == QuiltPatches.STATE));
            }
        }
    }

    private static int ask(QuiltPatches x, Method m, Object[] args) throws IllegalAccessException {
        try {
            return (Integer) m.invoke(x, args);
        } catch (InvocationTargetException e) {
            DUE.holds(m.getName() + Arrays.toString(args) + " threw " + e.getCause(), false);
            return 0;
        }
    }
}
