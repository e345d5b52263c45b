import java.util.function.Supplier;

/** All that can be read of an office, as one text; by several objects, none of which is asked more than 512 times. */
final class States {
    private static final int[] DAYS = {0, 12, 21, 45, 999};

    private States() {
    }

    static String of(Supplier<WidowDeeds> office) {
        StringBuilder out = new StringBuilder();
        counts(office.get(), out);
        deeds(office.get(), out);
        knowledge(office.get(), 0, out);
        knowledge(office.get(), 5, out);
        land(office.get(), out);
        laws(office.get(), out);
        sales(office.get(), out);
        undone(office.get(), out);
        tape(office.get(), out);
        return out.toString();
    }

    private static void add(StringBuilder out, long... answers) {
        for (long answer : answers) {
            out.append(answer).append(' ');
        }
    }

    private static void counts(WidowDeeds x, StringBuilder out) {
        for (int what = 0; what < 38; what++) {
            add(out, x.count(what));
        }
    }

    private static void deeds(WidowDeeds x, StringBuilder out) {
        for (int d = 0; d < x.count(0); d++) {
            for (int what = 0; what < 5; what++) {
                add(out, x.deedIs(d, what));
            }
        }
    }

    private static void knowledge(WidowDeeds x, int firstPerson, StringBuilder out) {
        int deeds = x.count(0);
        for (int d = 0; d < deeds; d++) {
            for (int p = firstPerson; p < firstPerson + 5; p++) {
                add(out, x.known(p, d));
            }
        }
    }

    private static void land(WidowDeeds x, StringBuilder out) {
        for (int s = 0; s < 8; s++) {
            for (int day : DAYS) {
                add(out, x.holder(s, day, 0), x.holder(s, day, 1), x.burdens(s, day), x.owed(s, day),
                        x.unseen(s, day, 0), x.unseen(s, day, 1), x.unseen(s, day, 2));
            }
        }
    }

    /** What each law says of the first deeds and the last, if they are of the strip. */
    private static void laws(WidowDeeds x, StringBuilder out) {
        int last = x.count(0) - 1;
        for (int law = 0; law < 3; law++) {
            for (int s = 0; s < 3; s++) {
                x.strip(s, 0, law);
                for (int what = 0; what < 2; what++) {
                    add(out, x.beats(s, 0, 1, 30, what), x.beats(s, 0, last, 30, what), x.beats(s, 0, 3, 30, what),
                            x.beats(s, 3, last, 30, what));
                }
            }
        }
    }

    /** The widow's sales now, and if all came to town one after another, and the other way round. */
    private static void sales(WidowDeeds x, StringBuilder out) {
        add(out, x.widow(0), x.widow(1));
        for (int way = 0; way < 2; way++) {
            for (int i = 0; i < 8; i++) {
                x.buyer(i, 5 * (way == 0 ? i : 7 - i), 100 + i, 99);
            }
            add(out, x.widow(0), x.widow(1));
        }
    }

    private static void undone(WidowDeeds x, StringBuilder out) {
        add(out, x.undo() ? 1 : 0);
        counts(x, out);
        deeds(x, out);
        for (int p = 0; p < 10; p++) {
            add(out, x.known(p, 0));
        }
    }

    /** The bytes are read as a law, where they can be, and as numbers. */
    private static void tape(WidowDeeds x, StringBuilder out) {
        add(out, x.law(0, Math.min(21, x.count(3))), x.count(10), x.beats(0, 0, 1, 30, 1));
    }
}
