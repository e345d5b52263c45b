/** Counts answers that are not as due, prints them, and ends a test with exit code 1 if there was one. */
final class Report {
    private final String test;
    private int asked = 0;
    private int wrong = 0;

    Report(String test) {
        this.test = test;
    }

    void due(String call, long got, long want) {
        asked++;
        if (got != want) {
            wrong++;
            System.out.println(test + ": " + call + " answered " + got + ", due is " + want);
        }
    }

    void due(String call, boolean got, boolean want) {
        due(call, got ? 1 : 0, want ? 1 : 0);
    }

    void fault(String what) {
        asked++;
        wrong++;
        System.out.println(test + ": " + what);
    }

    void close() {
        System.out.println(test + ": " + asked + " asked, " + wrong + " wrong");
        if (asked == 0 || wrong != 0) {
            System.exit(1);
        }
    }
}
