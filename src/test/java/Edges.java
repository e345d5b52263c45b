import java.util.Arrays;

/**
 * Calls at the edges of what the document allows, as rows of text with the answer that is due ("dies 10 5 -> 0"). Each
 * row is put to an office that is made for it alone.
 */
final class Edges {
    private final Report report;
    private final Script office;
    private final String before;

    Edges(Report report, Script office) {
        this.report = report;
        this.office = office;
        before = States.of(office::office);
    }

    /** All rows in their order, on one new object. */
    static void run(Report report, String sentence, String... rows) {
        WidowDeeds x = new WidowDeeds();
        for (String row : rows) {
            ask(report, sentence, x, row);
        }
    }

    private static void ask(Report report, String sentence, WidowDeeds x, String row) {
        int arrow = row.indexOf(" -> ");
        String call = arrow < 0 ? row : row.substring(0, arrow);
        long got = Script.call(x, call);
        if (arrow >= 0) {
            report.due(sentence + " | " + call, got, Long.parseLong(row.substring(arrow + 4)));
        }
    }

    void gives(String sentence, String... rows) {
        for (String row : rows) {
            ask(report, sentence, office.office(), row);
        }
    }

    /** The call is refused with this answer, and nothing has changed. */
    void refuses(String sentence, String... rows) {
        gives(sentence, rows);
        for (String row : rows) {
            leaves(sentence, row.substring(0, row.indexOf(" -> ")));
        }
    }

    /** The call changes nothing, whatever its answer. */
    void leaves(String sentence, String... calls) {
        for (String call : calls) {
            boolean isSame = States.of(() -> office.and(call).office()).equals(before);
            report.due(sentence + " | " + call + ": nothing changed", isSame, true);
        }
    }

    /**
     * A row with a # for the number that has bounds: what is due for the lowest and the highest; the ones next to them
     * and the farthest there are must be refused.
     */
    void bounds(String sentence, String row, int low, long dueLow, int high, long dueHigh, long refusal) {
        gives(sentence, fill(row, low) + " -> " + dueLow, fill(row, high) + " -> " + dueHigh);
        beyond(sentence, row, refusal, low - 1, high + 1);
    }

    /** A row with a # for numbers that are all refused, and so are the farthest ones. */
    void beyond(String sentence, String row, long refusal, int... numbers) {
        int[] all = Arrays.copyOf(numbers, numbers.length + 2);
        all[numbers.length] = Integer.MIN_VALUE;
        all[numbers.length + 1] = Integer.MAX_VALUE;
        for (int number : all) {
            refuses(sentence, fill(row, number) + " -> " + refusal);
        }
    }

    private static String fill(String row, int number) {
        return row.replace("#", Integer.toString(number));
    }
}
