/** Promises 23 to 28: what would be if a deed were forged, an entry lost, a deed more given, or mules late. */
public final class DoubtsTest {
    private static final Report R = new Report("DoubtsTest");
    private static final int NONE = WidowDeeds.NONE;

    public static void main(String[] args) {
        promise23Worst();
        promise24Missing();
        promise25Trial();
        promise25TrialIsKnown();
        promise26Till();
        promise26TillByTheOffice();
        promise27Fewest();
        promise27LeastRow();
        promise28Odds();
        promise28Refused();
        nothingIsLeft();
        R.close();
    }

    private static void promise23Worst() {
        WidowDeeds x = new WidowDeeds();
        R.due("23: no deeds", x.worst(5, 0), -2);
        R.due("23: no deeds", x.worst(5, 1), -2);
        R.due("23: no such what", x.worst(5, 2), NONE);
        R.due("23: no such what", x.worst(5, -1), NONE);
        R.due("23: no such day", x.worst(1000, 0), NONE);
        R.due("23: no such day", x.worst(-1, 0), NONE);
        x.deed(3, 4, 255, 10, 0, 0);
        R.due("23: the lowest of like ones", x.worst(20, 0), 0);
        R.due("23: it changes none", x.worst(20, 1), 0);
        x.deed(0, 1, 7, 10, 0, 0);
        x.deed(0, 2, 56, 12, 0, 0);
        R.due("23: of like ones the lowest", x.worst(20, 0), 1);
        R.due("23: three", x.worst(20, 1), 3);
        x.forged(1, true);
        R.due("23: if it were not", x.worst(20, 0), 1);
        R.due("23: three", x.worst(20, 1), 3);
        x.dies(0, 11);
        x.forged(1, false);
        R.due("23: the other one is void", x.worst(20, 1), 3);
        x.forged(2, true);
        x.forged(1, true);
        x.dies(0, 10);
        R.due("23: void all the same", x.worst(20, 1), 0);
        x.dies(0, NONE);
        R.due("23: ahead of all", x.worst(9, 1), 0);
        x.deed(0, 5, 255, 15, 1, 0);
        R.due("23: lanes change no holders", x.worst(20, 0), 1);
    }

    private static void promise24Missing() {
        WidowDeeds x = new WidowDeeds();
        Texts.law(x, 0, "b(c=1)");
        x.deed(0, 1, 3, 10, 0, 0);
        x.deed(0, 2, 3, 11, 0, 0);
        x.deed(0, 3, 28, 11, 0, 0);
        x.deed(0, 4, 28, 12, 0, 0);
        R.due("24: none entered", x.missing(50, 0), -2);
        R.due("24: none entered", x.missing(50, 1), -2);
        x.enter(0, 20, 0, 0, 0);
        R.due("24: none by then", x.missing(19, 0), -2);
        R.due("24: it changes none", x.missing(20, 0), 0);
        R.due("24: it changes none", x.missing(20, 1), 0);
        x.enter(1, 21, 0, 0, 0);
        R.due("24: now it does", x.missing(21, 1), 2);
        R.due("24: this one", x.missing(21, 0), 0);
        x.enter(3, 22, 0, 0, 0);
        R.due("24: the most", x.missing(22, 0), 3);
        R.due("24: the most", x.missing(22, 1), 3);
        R.due("24: not yet", x.missing(21, 1), 2);
        x.name(3, 7);
        Texts.law(x, 0, "b(i=1)");
        x.missing(22, 0);
        R.due("24: the name is back", x.deedIs(3, 2), 7);
        R.due("24: no such what", x.missing(22, 2), NONE);
        R.due("24: no such what", x.missing(22, -1), NONE);
        R.due("24: no such day", x.missing(1000, 0), NONE);
        x.strip(0, 0, 1);
        x.strip(1, 0, 1);
        Texts.law(x, 1, "b(i=1)");
        x.name(0, 5);
        R.due("24: misnamed, so it is beaten", x.holder(0, 30, 0), 2);
        R.due("24: if lost, not misnamed", x.missing(30, 0), 0);
        R.due("24: if lost, not misnamed", x.missing(30, 1), 2);
    }

    private static void promise25Trial() {
        WidowDeeds x = new WidowDeeds();
        Texts.law(x, 0, "b(c=1)");
        x.deed(0, 1, 1, 10, 0, 0);
        x.enter(0, 20, 0, 0, 0);
        R.due("25: entered first", x.trial(0, 0, 2, 12, 0, 19, 30, 0), 2);
        R.due("25: in it", x.trial(0, 0, 2, 12, 0, 19, 30, 1), 0);
        R.due("25: on the same day", x.trial(0, 0, 2, 12, 0, 20, 30, 0), 1);
        R.due("25: beaten", x.trial(0, 0, 2, 12, 0, 20, 30, 1), 4);
        R.due("25: not entered", x.trial(0, 0, 2, 12, 0, NONE, 30, 1), 4);
        R.due("25: on its own day", x.trial(0, 0, 2, 12, 0, 12, 30, 1), 0);
        R.due("25: ahead of its day", x.trial(0, 0, 2, 12, 0, 11, 30, 1), NONE);
        R.due("25: did not hold it", x.trial(0, 3, 2, 12, 0, 12, 30, 1), 5);
        R.due("25: later", x.trial(0, 0, 2, 12, 0, 12, 11, 1), 1);
        R.due("25: another strip", x.trial(1, 0, 2, 12, 0, NONE, 12, 0), 2);
        x.dies(0, 12);
        R.due("25: dead", x.trial(0, 0, 2, 12, 0, 12, 30, 1), 3);
        R.due("25: paid", x.trial(0, 0, 2, 11, 9999, 12, 30, 1), 0);
        int[][] wrong = {{8, 0, 2, 11, 0, 12, 30, 0}, {-1, 0, 2, 11, 0, 12, 30, 0}, {0, 10, 2, 11, 0, 12, 30, 0},
            {0, 0, 10, 11, 0, 12, 30, 0}, {0, 2, 2, 11, 0, 12, 30, 0}, {0, 0, 2, -1, 0, 12, 30, 0},
            {0, 0, 2, 1000, 0, 12, 30, 0}, {0, 0, 2, 11, -1, 12, 30, 0}, {0, 0, 2, 11, 10000, 12, 30, 0},
            {0, 0, 2, 11, 0, -2, 30, 0}, {0, 0, 2, 11, 0, 1000, 30, 0}, {0, 0, 2, 11, 0, 12, -1, 0},
            {0, 0, 2, 11, 0, 12, 1000, 0}, {0, 0, 2, 11, 0, 12, 30, 2}, {0, 0, 2, 11, 0, 12, 30, -1}};
        for (int[] w : wrong) {
            R.due("25: refused", x.trial(w[0], w[1], w[2], w[3], w[4], w[5], w[6], w[7]), NONE);
        }
        for (int d = 1; d < 40; d++) {
            x.deed(5, 6, 1, 0, 0, 0);
        }
        R.due("25: 40 are there", x.trial(0, 0, 2, 11, 0, 12, 30, 0), NONE);
        R.due("26: 40 are there", x.till(0, 0, 2, 11, 0, 30), NONE);
    }

    /** What is known of the deed that is tried: a later taker who knew of it does not beat it. */
    private static void promise25TrialIsKnown() {
        WidowDeeds x = new WidowDeeds();
        Texts.law(x, 0, "b(n=0)");
        x.deed(0, 1, 1, 20, 0, 0);
        R.due("25: unknown", x.trial(0, 0, 2, 10, 0, NONE, 30, 0), 1);
        x.well(15, 2 | 4);
        R.due("25: known by the well", x.trial(0, 0, 2, 10, 0, NONE, 30, 0), 2);
        R.due("25: given behind the well", x.trial(0, 0, 2, 16, 0, NONE, 30, 0), 1);
        R.due("25: the taker knows him", x.trial(0, 0, 2, 25, 0, NONE, 30, 0), 2);
    }

    private static void promise26Till() {
        WidowDeeds x = new WidowDeeds();
        R.due("26: any day", x.till(0, 0, 2, 12, 0, 30), 30);
        R.due("26: its own", x.till(0, 0, 2, 30, 0, 30), 30);
        R.due("26: by a day ahead", x.till(0, 0, 2, 31, 0, 30), NONE);
        R.due("26: not the holder's", x.till(0, 1, 2, 12, 0, 30), -2);
        int[][] wrong = {{8, 0, 2, 11, 0, 30}, {-1, 0, 2, 11, 0, 30}, {0, 10, 2, 11, 0, 30}, {0, 0, -1, 11, 0, 30},
            {0, 2, 2, 11, 0, 30}, {0, 0, 2, -1, 0, 30}, {0, 0, 2, 11, -1, 30}, {0, 0, 2, 11, 10000, 30},
            {0, 0, 2, 11, 0, 1000}};
        for (int[] w : wrong) {
            R.due("26: refused", x.till(w[0], w[1], w[2], w[3], w[4], w[5]), NONE);
        }
    }

    private static void promise26TillByTheOffice() {
        WidowDeeds x = new WidowDeeds();
        Texts.law(x, 0, "b(c=1)");
        x.deed(0, 1, 1, 10, 0, 0);
        R.due("26: the other is not entered", x.till(0, 0, 2, 12, 0, 30), 30);
        x.enter(0, 20, 0, 0, 0);
        R.due("26: the day ahead", x.till(0, 0, 2, 12, 0, 30), 19);
        R.due("26: not entered by then", x.till(0, 0, 2, 12, 0, 19), 19);
        R.due("26: too late", x.till(0, 0, 2, 20, 0, 30), -2);
        R.due("26: one that comes behind it", x.till(0, 0, 2, 5, 0, 30), 20);
        Texts.law(x, 0, "b(f=0)");
        x.lose(0);
        x.deed(0, 3, 1, 25, 0, 0);
        x.forged(0, true);
        R.due("26: found by the later buyer's day", x.till(0, 0, 2, 12, 0, 30), 25);
        R.due("26: found by the later buyer's day", x.till(0, 0, 2, 25, 0, 30), 30);
        R.due("26: it comes first", x.till(0, 0, 2, 12, 0, 24), 24);
        Texts.law(x, 0, "b(f=1)");
        R.due("26: not found by then", x.till(0, 0, 2, 12, 0, 30), 30);
    }

    private static void promise27Fewest() {
        WidowDeeds x = new WidowDeeds();
        x.deed(0, 1, 1, 10, 0, 0);
        x.deed(0, 2, 1, 11, 0, 0);
        x.deed(0, 3, 1, 12, 0, 0);
        x.deed(0, 4, 1, 13, 0, 0);
        x.deed(0, 5, 1, 14, 0, 0);
        R.due("27: it is holder", x.fewest(0, 1, 20, NONE), 0);
        R.due("27: no such place", x.fewest(0, 1, 20, 0), -2);
        R.due("27: one", x.fewest(0, 2, 20, NONE), 1);
        R.due("27: two", x.fewest(0, 3, 20, NONE), 2);
        R.due("27: three", x.fewest(0, 4, 20, NONE), 3);
        for (int place = 0; place < 3; place++) {
            R.due("27: which", x.fewest(0, 4, 20, place), place);
        }
        R.due("27: no such place", x.fewest(0, 4, 20, 3), -2);
        R.due("27: no such place", x.fewest(0, 4, 20, -2), -2);
        R.due("27: not by 3", x.fewest(0, 5, 20, NONE), -2);
        R.due("27: not by 3", x.fewest(0, 5, 20, 0), -2);
        R.due("27: by a day", x.fewest(0, 0, 10, NONE), 1);
        x.forged(1, true);
        R.due("27: one is forged", x.fewest(0, 3, 20, NONE), 1);
        R.due("27: which", x.fewest(0, 3, 20, 0), 0);
        R.due("27: now by 3", x.fewest(0, 5, 20, NONE), 3);
        R.due("27: which", x.fewest(0, 5, 20, 1), 2);
        R.due("27: no such strip", x.fewest(8, 0, 20, NONE), NONE);
        R.due("27: no such person", x.fewest(0, 10, 20, NONE), NONE);
        R.due("27: no such person", x.fewest(0, -1, 20, NONE), NONE);
        R.due("27: no such day", x.fewest(0, 0, 1000, NONE), NONE);
    }

    /** Either deeds 0 and 3 or deeds 1 and 2 will do; the row that begins lower counts, not the lower bits. */
    private static void promise27LeastRow() {
        WidowDeeds x = new WidowDeeds();
        x.deed(0, 1, 1, 10, 0, 0);
        x.deed(1, 2, 1, 20, 0, 0);
        x.deed(1, 4, 1, 21, 0, 0);
        x.deed(0, 3, 1, 11, 0, 0);
        x.deed(0, 9, 1, 12, 0, 0);
        x.deed(1, 9, 1, 22, 0, 0);
        R.due("27: holder", x.holder(0, 60, 0), 2);
        R.due("27: two", x.fewest(0, 9, 60, NONE), 2);
        R.due("27: the least row", x.fewest(0, 9, 60, 0), 0);
        R.due("27: the least row", x.fewest(0, 9, 60, 1), 3);
        R.due("27: no such place", x.fewest(0, 9, 60, 2), -2);
        x.forged(3, true);
        R.due("27: one is enough", x.fewest(0, 9, 60, NONE), 1);
    }

    private static void promise28Odds() {
        WidowDeeds x = new WidowDeeds();
        Texts.law(x, 0, "b(c=1)");
        for (int d = 0; d < 4; d++) {
            x.deed(0, 1 + d, 1, 10 + d, 0, 0);
        }
        fraction(x, 1, 0b11, 28, 49);
        fraction(x, 2, 0b11, 21, 49);
        fraction(x, 3, 0b11, 0, 49);
        fraction(x, 3, 0b100, 7, 7);
        fraction(x, 4, 0b1111, lastFirst(), 2401);
        R.due("28: by the day it comes", x.odds(0, 2, 2, 20, 20, 0), 0);
        R.due("28: the first day", x.odds(0, 2, 2, 20, 21, 0), 1);
        R.due("28: the first day", x.odds(0, 2, 2, 20, 21, 1), 7);
        R.due("28: the sixth", x.odds(0, 2, 2, 20, 26, 0), 6);
        R.due("28: the seventh", x.odds(0, 2, 2, 20, 27, 0), 1);
        R.due("28: the seventh", x.odds(0, 2, 2, 20, 27, 1), 1);
        R.due("28: sent late", x.odds(0, 2, 2, 999, 999, 0), 0);
        R.due("28: none entered after it", x.deedIs(1, 1), NONE);
        R.due("28: X stays", x.count(4), 1);
    }

    /** In how many of 7 x 7 x 7 x 7 ways the fourth comes on a lower day than each other one. */
    private static int lastFirst() {
        int ways = 0;
        for (int fourth = 1; fourth <= 7; fourth++) {
            ways += (7 - fourth) * (7 - fourth) * (7 - fourth);
        }
        return ways;
    }

    private static void fraction(WidowDeeds x, int p, long deeds, int above, int below) {
        int divisor = below;
        while (above % divisor != 0 || below % divisor != 0) {
            divisor--;
        }
        R.due("28: above for " + p, x.odds(0, p, deeds, 20, 40, 0), above / divisor);
        R.due("28: below for " + p, x.odds(0, p, deeds, 20, 40, 1), below / divisor);
    }

    private static void promise28Refused() {
        WidowDeeds x = new WidowDeeds();
        for (int d = 0; d < 6; d++) {
            x.deed(0, 1 + d, 1, 10 + d, 0, 0);
        }
        x.enter(5, 900, 0, 0, 0);
        R.due("28: fine", x.odds(0, 1, 15, 20, 40, 0), 1);
        R.due("28: none", x.odds(0, 1, 0, 20, 40, 0), NONE);
        R.due("28: five", x.odds(0, 1, 31, 20, 40, 0), NONE);
        R.due("28: entered", x.odds(0, 1, 32, 20, 40, 0), NONE);
        R.due("28: entered", x.odds(0, 1, 33, 20, 40, 0), NONE);
        R.due("28: no such deed", x.odds(0, 1, 64, 20, 40, 0), NONE);
        R.due("28: no such deed", x.odds(0, 1, 1L << 40 | 1, 20, 40, 0), NONE);
        R.due("28: no such deed", x.odds(0, 1, Long.MIN_VALUE | 1, 20, 40, 0), NONE);
        R.due("28: of a later day", x.odds(0, 1, 16, 13, 40, 0), NONE);
        R.due("28: of its day", x.odds(0, 1, 16, 14, 40, 0), 1);
        R.due("28: no such strip", x.odds(8, 1, 1, 20, 40, 0), NONE);
        R.due("28: no such person", x.odds(0, 10, 1, 20, 40, 0), NONE);
        R.due("28: no such day", x.odds(0, 1, 1, 1000, 40, 0), NONE);
        R.due("28: no such day", x.odds(0, 1, 1, 20, 1000, 0), NONE);
        R.due("28: no such day", x.odds(0, 1, 1, 20, -1, 0), NONE);
        R.due("28: no such what", x.odds(0, 1, 1, 20, 40, 2), NONE);
        R.due("28: no such what", x.odds(0, 1, 1, 20, 40, -1), NONE);
    }

    /** What was only thought of leaves no trace. */
    private static void nothingIsLeft() {
        Script office = Script.of("law 0 b(c=1)", "deed 0 1 1 10 0 0", "deed 0 2 1 11 0 0", "deed 0 3 1 12 0 0",
            "enter 0 20 1 2 3", "name 0 6", "forged 2 true");
        String before = States.of(office::office);
        String[] thoughts = {"worst 30 0", "missing 30 0", "trial 0 0 4 5 0 9 30 0", "till 0 0 4 5 0 30",
            "fewest 0 2 30 0", "odds 0 2 2 12 30 0", "reign 0 1 0 50", "search 0 30 1"};
        for (String thought : thoughts) {
            String after = States.of(() -> office.and(thought).office());
            R.due("23 to 28: nothing is left of " + thought, after.equals(before), true);
        }
    }
}
