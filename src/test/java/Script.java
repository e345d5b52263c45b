import java.lang.reflect.InvocationTargetException;
import java.lang.reflect.Method;
import java.util.ArrayList;
import java.util.HashMap;
import java.util.List;
import java.util.Map;

/**
 * Calls as rows of text ("deed 0 1 1 10 0 100"), to be made on any object that has the methods of the face. A law may
 * be told by its text ("law 0 b(c=1)"), a text alone is put on the tape ("text b(c=1)"); true counts 1 and false 0.
 */
final class Script {
    private static final Map<String, Method> METHODS = new HashMap<>();

    private final List<String> rows;

    private Script(List<String> rows) {
        this.rows = rows;
    }

    static Script of(String... rows) {
        return new Script(List.of(rows));
    }

    Script and(String... more) {
        List<String> all = new ArrayList<>(rows);
        all.addAll(List.of(more));
        return new Script(all);
    }

    /** A row again and again, with # in place of 0, 1, 2, .. */
    Script times(int count, String row) {
        List<String> all = new ArrayList<>(rows);
        for (int i = 0; i < count; i++) {
            all.add(row.replace("#", Integer.toString(i)));
        }
        return new Script(all);
    }

    int size() {
        return rows.size();
    }

    WidowDeeds office() {
        return on(new WidowDeeds());
    }

    <T> T on(T x) {
        for (String row : rows) {
            call(x, row);
        }
        return x;
    }

    static long call(Object x, String row) {
        String[] words = row.split(" ");
        if (words[0].equals("text")) {
            return feed(x, row.substring(5));
        }
        if (words[0].equals("law") && !words[2].matches("-?[0-9]+")) {
            String text = row.substring(words[0].length() + words[1].length() + 2);
            feed(x, text);
            return call(x, "law " + words[1] + " " + text.length());
        }
        Method method = method(x.getClass(), words[0], words.length - 1);
        Object[] values = new Object[words.length - 1];
        for (int i = 0; i < values.length; i++) {
            values[i] = value(method.getParameterTypes()[i], words[i + 1]);
        }
        return invoke(x, method, values);
    }

    static long invoke(Object x, Method method, Object... values) {
        try {
            Object answer = method.invoke(x, values);
            return answer instanceof Boolean ? (Boolean) answer ? 1 : 0 : ((Number) answer).longValue();
        } catch (IllegalAccessException e) {
            throw new IllegalStateException(e);
        } catch (InvocationTargetException e) {
            throw new IllegalStateException(method.getName() + " threw", e.getCause());
        }
    }

    /** Blanks behind it, up to a multiple of twenty bytes. */
    private static long feed(Object x, String text) {
        long length = 0;
        for (int from = 0; from < text.length(); from += 20) {
            StringBuilder row = new StringBuilder("feed");
            for (int at = from; at < from + 20; at += 4) {
                int word = 0;
                for (int k = at; k < at + 4; k++) {
                    word = word << 8 | (k < text.length() ? text.charAt(k) : ' ');
                }
                row.append(' ').append(word);
            }
            length = call(x, row.toString());
        }
        return length;
    }

    private static Object value(Class<?> type, String word) {
        if (type == boolean.class) {
            return Boolean.parseBoolean(word);
        }
        return type == long.class ? (Object) Long.parseLong(word) : (Object) Integer.parseInt(word);
    }

    private static Method method(Class<?> type, String name, int parameters) {
        return METHODS.computeIfAbsent(type.getName() + " " + name + " " + parameters, key -> {
            for (Method m : type.getDeclaredMethods()) {
                if (m.getName().equals(name) && m.getParameterCount() == parameters) {
                    return m;
                }
            }
            throw new IllegalArgumentException("no method: " + key);
        });
    }
}
