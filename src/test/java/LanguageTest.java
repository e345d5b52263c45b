import java.io.IOException;
import java.lang.management.ManagementFactory;
import java.lang.reflect.Constructor;
import java.lang.reflect.Field;
import java.lang.reflect.Method;
import java.lang.reflect.Modifier;
import java.nio.file.Files;
import java.nio.file.Path;
import java.util.Arrays;
import java.util.List;
import java.util.Set;
import java.util.TreeSet;
import java.util.regex.Matcher;
import java.util.regex.Pattern;

/** What of LANGUAGE.md can be looked at by a program: the face, forbidden words, sizes, and the room that calls take. */
public final class LanguageTest {
    private static final Report R = new Report("LanguageTest");
    private static final List<String> FACE = List.of("dies(int,int)", "strip(int,int,int)",
        "deed(int,int,int,int,int,int)", "forged(int,boolean)", "enter(int,int,int,int,int)", "mule(int,int,int,int,int)",
        "name(int,int)", "lose(int)", "heard(int,int,int)", "well(int,int)", "feed(int,int,int,int,int)", "law(int,int)",
        "known(int,int)", "seen(int,int,int,int)", "beats(int,int,int,int,int)", "holder(int,int,int)", "why(int,int,int)",
        "burdens(int,int)", "owed(int,int)", "unseen(int,int,int)", "search(int,int,int)", "worst(int,int)",
        "missing(int,int)", "trial(int,int,int,int,int,int,int,int)", "till(int,int,int,int,int,int)",
        "fewest(int,int,int,int)", "odds(int,int,long,int,int,int)", "buyer(int,int,int,int)", "hears(int,int,int)",
        "widow(int)", "holds(int,int)", "reign(int,int,int,int)", "seed(int)", "keep()", "undo()", "check(int,int)",
        "deedIs(int,int)", "count(int)");

    public static void main(String[] args) throws IOException {
        rule1Face();
        String source = Files.readString(Path.of(args.length > 0 ? args[0] : "src/main/java/WidowDeeds.java"));
        rule6Words(source.replaceAll("(?s)/\\*.*?\\*/", "").replaceAll("//[^\n]*", "").replaceAll("\"[^\"\n]*\"", "\"\""));
        rule11Sizes(source);
        rule11Classes(WidowDeeds.class);
        for (Class<?> inner : WidowDeeds.class.getDeclaredClasses()) {
            R.due("1: static " + inner, Modifier.isStatic(inner.getModifiers()), true);
            rule11Classes(inner);
        }
        R.due("11: classes", WidowDeeds.class.getDeclaredClasses().length < 12, true);
        rule12Room();
        R.close();
    }

    private static void rule1Face() {
        Set<String> methods = new TreeSet<>();
        Set<String> names = new TreeSet<>();
        for (Method m : WidowDeeds.class.getDeclaredMethods()) {
            if (!Modifier.isPrivate(m.getModifiers())) {
                names.add(m.getName());
                String types = String.join(",", Arrays.stream(m.getParameterTypes()).map(Class::getName).toList());
                methods.add(m.getName() + "(" + types + ")");
            }
        }
        R.due("1: the face is the document's: " + methods, methods.equals(new TreeSet<>(FACE)), true);
        for (Class<?> inner : WidowDeeds.class.getDeclaredClasses()) {
            for (Method m : inner.getDeclaredMethods()) {
                R.due("1: " + inner.getName() + "." + m.getName() + " bears a public name", names.contains(m.getName()), false);
            }
        }
        for (Method m : WidowDeeds.class.getDeclaredMethods()) {
            boolean isDouble = Modifier.isPrivate(m.getModifiers()) && names.contains(m.getName());
            R.due("1: " + m.getName() + " bears a public name", isDouble, false);
        }
        for (Field f : WidowDeeds.class.getDeclaredFields()) {
            R.due("1: field " + f.getName(), Modifier.isPrivate(f.getModifiers()) || f.getName().equals("NONE"), true);
        }
        Constructor<?>[] makers = WidowDeeds.class.getDeclaredConstructors();
        R.due("1: one constructor", makers.length == 1 && makers[0].getParameterCount() == 0, true);
        R.due("1: final", Modifier.isFinal(WidowDeeds.class.getModifiers()), true);
    }

    private static void rule6Words(String code) {
        String[] words = {"throw", "throws", "try", "catch", "finally", "synchronized", "assert", "package", "protected",
            "volatile", "transient", "native", "Thread", "Object", "hashCode", "toString", "Random", "Exact", "double",
            "float", "var", "yield", "->", "::", "@"};
        for (String word : words) {
            String look = Character.isLetter(word.charAt(0)) ? "\\b" + word + "\\b" : word;
            R.due("6: " + word, Pattern.compile(look).matcher(code).find(), false);
        }
        Matcher imports = Pattern.compile("import ([\\w.]+);").matcher(code);
        while (imports.find()) {
            R.due("4: " + imports.group(1), imports.group(1).equals("java.util.Arrays"), true);
        }
    }

    /** A method's lines are those from its head to the bracket that stands below it. */
    private static void rule11Sizes(String source) {
        String[] lines = source.split("\n");
        Pattern head = Pattern.compile("^( {4}| {8})(?!\\s)[^=;/*]*\\(([^=;]*)\\) \\{$");
        for (int i = 0; i < lines.length; i++) {
            Matcher m = head.matcher(lines[i]);
            R.due("width of line " + (i + 1), lines[i].length() <= 120, true);
            if (m.find()) {
                int end = i;
                while (!lines[end].equals(m.group(1) + "}")) {
                    end++;
                }
                R.due("11: lines of " + lines[i].trim(), end - i < 60, true);
                int most = lines[i].contains(" trial(") ? 8 : 7;
                R.due("11: parameters of " + lines[i].trim(), m.group(2).split(",").length <= most, true);
            }
        }
    }

    private static void rule11Classes(Class<?> type) {
        long fields = Arrays.stream(type.getDeclaredFields()).filter(f -> !Modifier.isStatic(f.getModifiers())).count();
        R.due("11: fields of " + type, fields <= 20, true);
        for (Field f : type.getDeclaredFields()) {
            boolean isState = Modifier.isStatic(f.getModifiers()) && !Modifier.isFinal(f.getModifiers());
            R.due("5: static " + f, isState, false);
        }
    }

    /** Calls make no objects: the room of a run is the room of its objects. */
    private static void rule12Room() {
        com.sun.management.ThreadMXBean threads = (com.sun.management.ThreadMXBean) ManagementFactory.getThreadMXBean();
        long self = Thread.currentThread().getId();
        callAll(new WidowDeeds());
        long start = threads.getThreadAllocatedBytes(self);
        WidowDeeds x = new WidowDeeds();
        long made = threads.getThreadAllocatedBytes(self);
        callAll(x);
        long used = threads.getThreadAllocatedBytes(self);
        R.due("12: bytes of an object, " + (made - start), made - start < 40000, true);
        R.due("12: bytes of its calls, " + (used - made), used - made < 1000, true);
    }

    private static int callAll(WidowDeeds x) {
        int sum = x.feed(0x6228633D, 0x31290000, 0, 0, 0) + x.law(0, 6);
        for (int d = 0; d < 20; d++) {
            sum += x.deed(d % 3, 3 + d % 4, 1 + d, 10 + d, d % 5 == 0 ? 1 : 0, d);
            x.enter(d / 2, 40, d % 14, 3, 4);
            sum += x.mule(d / 2 + 4, 50, 1, 2, 3) + x.heard(2, d, 50) + x.well(60, 6);
        }
        sum += x.keep() + x.worst(90, 0) + x.missing(90, 0) + x.trial(0, 0, 4, 5, 0, 9, 30, 0) + x.till(0, 0, 4, 5, 0, 90);
        sum += x.fewest(0, 9, 90, 0) + x.odds(0, 3, 1 << 19, 50, 90, 0) + x.reign(0, 3, 0, 99) + x.search(0, 90, 1);
        sum += x.holds(3, 90) + x.owed(0, 90) + (int) x.burdens(0, 90) + (int) x.unseen(0, 90, 0) + x.why(0, 2, 90);
        x.buyer(0, 5, 5, 5);
        x.hears(1, 0, 5);
        x.undo();
        return sum + x.widow(0) + x.check(5, 0) + x.known(3, 3) + x.seen(2, 0, 90, 1) + x.beats(0, 2, 4, 90, 0);
    }
}
