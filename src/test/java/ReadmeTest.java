import java.io.IOException;
import java.nio.file.Files;
import java.nio.file.Path;
import java.util.ArrayList;
import java.util.List;
import java.util.regex.Matcher;
import java.util.regex.Pattern;

/** README.md tells every call of the face as the class has it, and its example answers as it says. */
public final class ReadmeTest {
    private static final Report R = new Report("ReadmeTest");
    private static final Pattern HEAD =
        Pattern.compile("^    public (\\w+ \\w+\\([^)]*\\)) \\{$", Pattern.MULTILINE);
    private static final Pattern ROW = Pattern.compile("^\\| `(\\w+ \\w+\\([^)]*\\))` \\|", Pattern.MULTILINE);
    private static final Pattern EXAMPLE =
        Pattern.compile("^office\\.(\\w+)\\(([^)]*)\\); +// (true|false|-?\\d+):", Pattern.MULTILINE);

    public static void main(String[] args) throws IOException {
        String readme = Files.readString(Path.of("README.md"));
        String source = Files.readString(Path.of(args.length > 0 ? args[0] : "src/main/java/WidowDeeds.java"));
        List<String> calls = all(HEAD, source);
        List<String> rows = all(ROW, readme);
        R.due("calls of the face", calls.size(), 38);
        R.due("calls told", rows.size(), 38);
        for (String call : calls) {
            R.due(call + " is told", rows.contains(call), true);
        }
        example(readme);
        R.close();
    }

    private static List<String> all(Pattern pattern, String text) {
        List<String> found = new ArrayList<>();
        Matcher m = pattern.matcher(text);
        while (m.find()) {
            found.add(m.group(1));
        }
        return found;
    }

    private static void example(String readme) {
        WidowDeeds office = new WidowDeeds();
        Matcher m = EXAMPLE.matcher(readme);
        int lines = 0;
        while (m.find()) {
            StringBuilder row = new StringBuilder(m.group(1));
            for (String argument : m.group(2).split(", ")) {
                row.append(' ').append(Long.decode(argument));
            }
            long due = m.group(3).equals("true") ? 1 : m.group(3).equals("false") ? 0 : Long.parseLong(m.group(3));
            R.due("the example's " + row, Script.call(office, row.toString()), due);
            lines++;
        }
        R.due("lines of the example", lines, 10);
    }
}
