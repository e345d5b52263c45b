import java.lang.reflect.Method;
import java.lang.reflect.Modifier;
import java.util.Arrays;
import java.util.Comparator;

/** Every call with mixes of far-off arguments, at each kind of office: it answers; if refused, it changes nothing. */
public final class RefusalTest {
    private static final Report R = new Report("RefusalTest");
    private static final int[] FAR = {-1, 0, 1, 7, 8, 39, 40, 1000, Integer.MAX_VALUE, Integer.MIN_VALUE, -2, 32, 64};
    private static final int DRAWS = 60;

    public static void main(String[] args) {
        Method[] methods = WidowDeeds.class.getDeclaredMethods();
        Arrays.sort(methods, Comparator.comparing(Method::getName));
        for (Script office : new Script[] {Offices.EMPTY, Offices.SOME, Offices.FULL}) {
            String before = States.of(office::office);
            for (Method method : methods) {
                if (Modifier.isPublic(method.getModifiers())) {
                    callAll(method, office, before);
                }
            }
        }
        R.close();
    }

    private static void callAll(Method method, Script office, String before) {
        for (int draw = 0; draw < DRAWS; draw++) {
            Object[] values = draw(method.getParameterTypes(), draw);
            long answer = Script.invoke(office.office(), method, values);
            String call = method.getName() + Arrays.toString(values) + " answered " + answer;
            if (isRefused(method, answer)) {
                String after = States.of(() -> {
                    WidowDeeds x = office.office();
                    Script.invoke(x, method, values);
                    return x;
                });
                R.due(call + ": nothing changed", after.equals(before), true);
            }
        }
    }

    private static Object[] draw(Class<?>[] types, int draw) {
        Object[] values = new Object[types.length];
        for (int i = 0; i < values.length; i++) {
            int value = FAR[(draw / (i * i + 1) * 7 + draw * (i + 1) + i * 5) % FAR.length];
            values[i] = types[i] == int.class ? (Object) value : types[i] == long.class ? (Object) (value * 4097L)
                    : (Object) (value % 2 == 0);
        }
        return values;
    }

    /** Of check(), NONE says that all is right. */
    private static boolean isRefused(Method method, long answer) {
        if (method.getName().equals("check")) {
            return answer == -2;
        }
        return method.getReturnType() == boolean.class ? answer == 0 : answer == -1;
    }
}
