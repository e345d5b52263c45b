import java.lang.reflect.Method;
import java.lang.reflect.Modifier;
import java.util.Arrays;
import java.util.Comparator;

/** Every call with every mix of far-off arguments: it answers, and where it is refused nothing has changed. */
public final class RefusalTest {
    private static final Report R = new Report("RefusalTest");
    private static final int[] FAR = {-1, 0, 1, 7, 8, 39, 40, 1000, Integer.MAX_VALUE, Integer.MIN_VALUE, -2, 32, 64};

    public static void main(String[] args) throws ReflectiveOperationException {
        Method[] methods = WidowDeeds.class.getDeclaredMethods();
        Arrays.sort(methods, Comparator.comparing(Method::getName));
        for (Method method : methods) {
            if (Modifier.isPublic(method.getModifiers())) {
                callAll(method, new WidowDeeds());
                callAll(method, full());
            }
        }
        R.close();
    }

    /** An office in which all is as full as it can be. */
    private static WidowDeeds full() {
        WidowDeeds x = new WidowDeeds();
        Texts.law(x, 0, "b(c=1|p/g>n&f=0);s(n=0);y10*k(u=0)");
        for (int d = 0; d < 40; d++) {
            x.deed(d % 10, (d + 1) % 10, 1 + d % 255, d % 50, d % 4 == 3 ? 1 + d % 2 : 0, d);
            if (d % 3 != 0) {
                x.enter(d, 50 + d % 7, d % 14, d * 5 % 14, d * 3 % 14);
            }
        }
        for (int i = 0; i < 60; i++) {
            x.heard(i % 10, i % 40, 50);
        }
        for (int i = 0; i < 20; i++) {
            x.well(60 - i, 3 << i % 9);
        }
        for (int i = 0; i < 10; i++) {
            x.feed(i, i, i, i, i);
        }
        return x;
    }

    private static void callAll(Method method, WidowDeeds x) throws ReflectiveOperationException {
        Class<?>[] types = method.getParameterTypes();
        int far = FAR.length;
        String before = States.of(x);
        for (int draw = 0; draw < 400; draw++) {
            Object[] values = new Object[types.length];
            for (int i = 0; i < values.length; i++) {
                int value = FAR[(draw / (i * i + 1) * 7 + draw * (i + 1) + i * 5) % far];
                values[i] = types[i] == int.class ? (Object) value : types[i] == long.class ? (Object) (value * 4097L)
                        : (Object) (value % 2 == 0);
            }
            Object answer = method.invoke(x, values);
            String after = States.of(x);
            boolean isRefused = answer.equals(false) || answer.equals(-1) || answer.equals(-1L);
            String call = method.getName() + Arrays.toString(values) + " answered " + answer;
            if (isRefused && !method.getName().equals("check")) {
                R.due(call + ": nothing changed", after.equals(before), true);
            } else if (!after.equals(before)) {
                before = after;
            }
        }
    }
}
