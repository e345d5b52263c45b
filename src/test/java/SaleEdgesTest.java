/** Each sentence of promises 29 to 31 that names an edge, and of the terms on the widow. */
public final class SaleEdgesTest {
    private static final Report R = new Report("SaleEdgesTest");
    private static final Edges SOME = new Edges(R, Offices.SOME);
    private static final Edges EMPTY = new Edges(R, Offices.EMPTY);
    private static final Edges FULL = new Edges(R, Offices.FULL);

    public static void main(String[] args) {
        promise29();
        promise29InPlace();
        promise30();
        promise30AtFirst();
        promise31();
        termsEntered();
        termsHeard();
        termsSalesAhead();
        termsMost();
        termsLikeOnes();
        R.close();
    }

    private static void run(String sentence, String... rows) {
        Edges.run(R, sentence, rows);
    }

    private static void promise29() {
        SOME.bounds("29: BUYERS 0 to 7", "buyer # 5 5 5", 0, 1, 7, 1, 0);
        SOME.bounds("29: (DAY 0 to 999)", "buyer 3 # 5 5", 0, 1, 999, 1, 0);
        SOME.bounds("29: a price (1 to 9999)", "buyer 3 5 # 5", 1, 1, 9999, 1, 0);
        SOME.bounds("29: after how many DAYS its DEED is ENTERED (0 to 99)", "buyer 3 5 5 #", 0, 1, 99, 1, 0);
        SOME.beyond("29: refused in place of one that is there", "buyer 0 5 # 5", 0, 0, -1, 10000);
        FULL.beyond("29: refused where all are there", "buyer # 5 5 5", 0, -1, 8);
        run("29: the first and the last BUYER, the lowest and the highest price", "buyer 0 0 1 99", "widow 0 -> 1",
            "widow 1 -> 1", "buyer 7 0 9999 99", "widow 0 -> 10000", "widow 1 -> 129");
    }

    private static void promise29InPlace() {
        run("29: (in place of the one before): price", "buyer 3 5 100 9", "buyer 3 5 7 9 -> 1", "widow 0 -> 7",
            "widow 1 -> 8");
        run("29: (in place of the one before): DAY", "buyer 3 5 100 9", "buyer 4 14 50 9", "widow 0 -> 100",
            "buyer 3 6 100 9 -> 1", "widow 0 -> 150");
        run("29: (in place of the one before): after how many DAYS", "buyer 3 5 100 9", "buyer 4 14 50 9",
            "widow 0 -> 100", "buyer 3 5 100 10 -> 1", "widow 0 -> 150");
        run("29: the same once more", "buyer 3 5 100 9 -> 1", "buyer 3 5 100 9 -> 1", "widow 0 -> 100");
    }

    private static void promise30() {
        SOME.bounds("30: BUYER i 0 to 7", "hears # 3 5", 0, 1, 7, 1, 0);
        SOME.bounds("30: BUYER j 0 to 7", "hears 3 # 5", 0, 1, 7, 1, 0);
        SOME.bounds("30: after so many DAYS (0 to 99; 100: never)", "hears 1 0 #", 0, 1, 100, 1, 0);
        SOME.gives("30: 99", "hears 1 0 99 -> 1");
        for (int i = 0; i < 8; i++) {
            SOME.refuses("30: one twice", "hears " + i + " " + i + " 5 -> 0");
        }
        SOME.refuses("30: one twice, though never", "hears 0 0 100 -> 0", "hears 7 7 100 -> 0");
        run("30: in place of what was told", "buyer 0 5 10 99", "buyer 1 9 10 99", "hears 1 0 4", "widow 0 -> 10",
            "hears 1 0 5 -> 1", "widow 0 -> 20", "hears 1 0 3", "widow 0 -> 10", "hears 1 0 100 -> 1", "widow 0 -> 20");
        run("30: of a sale to BUYER j, not the other way round", "buyer 0 5 10 99", "buyer 1 9 10 99", "hears 0 1 0",
            "widow 0 -> 20");
    }

    private static void promise30AtFirst() {
        for (int i = 0; i < 8; i++) {
            for (int j = 0; j < 8; j++) {
                if (i != j) {
                    run("HEARS .. (100: never; 100 at first)", "buyer " + j + " 0 10 99", "buyer " + i + " 98 10 99",
                        "widow 0 -> 20", "hears " + i + " " + j + " 98 -> 1", "widow 0 -> 10",
                        "hears " + i + " " + j + " 99 -> 1", "widow 0 -> 20");
                }
            }
        }
        run("HEARS .. 100: never, not after 100 DAYS", "buyer 0 0 10 99", "buyer 1 99 5 9", "widow 0 -> 10",
            "buyer 1 98 5 9", "widow 0 -> 15", "hears 1 0 100", "widow 0 -> 15");
    }

    private static void promise31() {
        SOME.bounds("31: what 0 how much, 1 to whom", "widow #", 0, 300, 1, 3, -1);
        EMPTY.bounds("31: no BUYERS: nothing, to nobody", "widow #", 0, 0, 1, 0, -1);
        FULL.bounds("31: all BUYERS are there; 7 hears of 0, and 3 of 2", "widow #", 0, 59994, 1, 119, -1);
        run("31: the least there is", "buyer 7 999 1 99", "widow 0 -> 1", "widow 1 -> 128");
        Script all = Script.of().times(8, "buyer # 999 9999 1");
        new Edges(R, all).bounds("31: the most there is", "widow #", 0, 79992, 1, 255, -1);
    }

    /** Buyer 0 is in town on day 5. */
    private static void termsEntered() {
        String entered = "if of no sale ahead the DEED is ENTERED by its DAY: ";
        run(entered + "on it", "buyer 0 5 10 4", "buyer 1 9 10 99", "widow 0 -> 10", "widow 1 -> 1");
        run(entered + "the DAY behind it", "buyer 0 5 10 5", "buyer 1 9 10 99", "widow 0 -> 20", "widow 1 -> 3");
        run(entered + "the DAY ahead of it", "buyer 0 5 10 3", "buyer 1 9 10 99", "widow 0 -> 10");
        run(entered + "after 0 DAYS, on the same DAY", "buyer 0 5 10 0", "buyer 1 5 10 99", "widow 0 -> 10");
        run(entered + "after 1 DAY, on the same DAY", "buyer 0 5 10 1", "buyer 1 5 10 99", "widow 0 -> 20");
        run(entered + "after 99 DAYS, 99 behind", "buyer 0 5 10 99", "buyer 1 104 9 99", "widow 0 -> 10");
        run(entered + "after 99 DAYS, 98 behind", "buyer 0 5 10 99", "buyer 1 103 9 99", "widow 0 -> 19");
    }

    private static void termsHeard() {
        String heard = "and of none it has HEARD by then: ";
        run(heard + "on its DAY", "buyer 0 5 10 99", "buyer 1 9 9 99", "hears 1 0 4", "widow 0 -> 10");
        run(heard + "the DAY behind it", "buyer 0 5 10 99", "buyer 1 9 9 99", "hears 1 0 5", "widow 0 -> 19");
        run(heard + "after 0 DAYS, on the same DAY", "buyer 0 5 10 99", "buyer 1 5 9 99", "hears 1 0 0",
            "widow 0 -> 10");
        run(heard + "after 1 DAY, on the same DAY", "buyer 0 5 10 99", "buyer 1 5 9 99", "hears 1 0 1",
            "widow 0 -> 19");
    }

    private static void termsSalesAhead() {
        String ahead = "sale ahead (of a lower DAY, or the same and a lower number): ";
        run(ahead + "the same DAY, a higher number is not", "buyer 0 5 10 99", "buyer 1 5 9 0", "hears 0 1 0",
            "widow 0 -> 19");
        run(ahead + "the same DAY, a lower number is", "buyer 0 5 10 0", "buyer 1 5 9 99", "widow 0 -> 10");
        run(ahead + "a lower DAY, a higher number is", "buyer 0 5 10 99", "buyer 1 4 9 0", "widow 0 -> 10");
        run(ahead + "a higher DAY, a lower number is not", "buyer 0 6 10 0", "buyer 1 5 9 99", "hears 1 0 0",
            "widow 0 -> 19");
        run(ahead + "one who is not sold to is no sale", "buyer 0 5 10 0", "buyer 1 6 10 0", "buyer 2 7 25 0",
            "widow 0 -> 25", "widow 1 -> 4");
        run(ahead + "any of them", "buyer 0 5 10 99", "buyer 1 6 10 99", "buyer 2 7 15 99", "hears 2 0 0",
            "widow 0 -> 25", "widow 1 -> 6");
    }

    private static void termsMost() {
        run("the SET by which she gets most", "buyer 0 5 10 0", "buyer 1 6 4 99", "buyer 2 7 5 99", "widow 0 -> 10",
            "widow 1 -> 1", "buyer 2 7 7 99", "widow 0 -> 11", "widow 1 -> 6");
    }

    private static void termsLikeOnes() {
        run("of like ones of fewest", "buyer 0 5 4 1", "buyer 1 5 6 1", "buyer 2 6 10 1", "widow 0 -> 10",
            "widow 1 -> 4");
        run("of fewest, then the least", "buyer 3 5 10 0", "buyer 2 6 10 0", "widow 0 -> 10", "widow 1 -> 4",
            "buyer 0 7 10 0", "widow 1 -> 1");
        run("then the least: as bits, of two", "buyer 0 5 6 1", "buyer 3 5 4 1", "buyer 1 6 5 1", "buyer 2 6 5 1",
            "widow 0 -> 10", "widow 1 -> 6");
    }
}
