/** Each sentence of promises 23 to 28 that names an edge, and of the terms they rest on: what would be, if. */
public final class DoubtEdgesTest {
    private static final Report R = new Report("DoubtEdgesTest");
    private static final Edges EMPTY = new Edges(R, Offices.EMPTY);
    private static final Edges NEARLY_FULL = new Edges(R, Offices.NEARLY_FULL);
    private static final Edges FULL = new Edges(R, Offices.FULL);

    /** Who enters first wins. Deed 0, to 1, day 5, is entered from day 9 on; deed 1, to 2, day 6, from day 10 on. */
    private static final Script RACE = Script.of("law 0 b(c=1)", "deed 0 1 255 5 0 0", "deed 0 2 255 6 0 0",
        "enter 0 9 0 0 0", "enter 1 10 0 0 0");
    private static final Edges TWO = new Edges(R, RACE);

    /** The same, and neither is entered. */
    private static final Edges SENT = new Edges(R, RACE.and("lose 0", "lose 1"));

    public static void main(String[] args) {
        promise23();
        promise23LikeOnes();
        promise23HowMany();
        promise24();
        promise24LikeOnes();
        promise25People();
        promise25Days();
        promise25Entered();
        promise25Full();
        promise25AsIfGiven();
        promise26();
        promise26Last();
        promise27();
        promise27HowMany();
        promise27LikeOnes();
        promise28Bounds();
        promise28Which();
        promise28HowMany();
        promise28Days();
        promise28Fraction();
        R.close();
    }

    private static void run(String sentence, String... rows) {
        Edges.run(R, sentence, rows);
    }

    private static void promise23() {
        TWO.bounds("23: DAY 0 to 999", "worst # 1", 0, 0, 999, 8, -1);
        TWO.bounds("23: what 0 the DEED, 1 how many", "worst 9 #", 0, 0, 1, 8, -1);
        EMPTY.gives("23: -2: no DEEDS", "worst 0 0 -> -2", "worst 0 1 -> -2", "worst 999 0 -> -2");
        EMPTY.beyond("23: no such DAY, and no DEEDS", "worst # 0", -1, -1, 1000);
        EMPTY.beyond("23: no such what, and no DEEDS", "worst 0 #", -1, -1, 2);
        FULL.gives("23: with 40 DEEDS", "worst 0 0 -> 0", "worst 0 1 -> 1");
    }

    private static void promise23LikeOnes() {
        run("WORST: of like ones the lowest: none changes anything", "deed 3 4 1 5 0 0", "deed 5 6 1 5 0 0",
            "worst 9 0 -> 0", "worst 9 1 -> 0");
        run("WORST: of like ones the lowest: each one STRIP", "deed 3 4 1 5 0 0", "deed 0 1 2 7 0 0",
            "deed 0 1 1 6 0 0", "worst 9 0 -> 1", "worst 9 1 -> 1");
        run("WORST: a higher one that changes more", "deed 0 1 1 5 0 0", "deed 0 1 6 5 0 0", "worst 9 0 -> 1",
            "worst 9 1 -> 2");
        run("WORST: by a DAY", "deed 0 1 1 5 0 0", "deed 0 1 6 6 0 0", "worst 4 1 -> 0", "worst 5 0 -> 0",
            "worst 5 1 -> 1", "worst 6 0 -> 1", "worst 6 1 -> 2");
        FULL.gives("WORST: the lowest of 40", "worst 999 0 -> 39", "worst 999 1 -> 1", "worst 39 0 -> 0",
            "worst 39 1 -> 0");
    }

    private static void promise23HowMany() {
        run("WORST: if it is FORGED, were not", "deed 0 1 255 5 0 0", "forged 0 true", "worst 9 0 -> 0",
            "worst 9 1 -> 8");
        run("WORST: were not FORGED, but its GIVER is dead", "deed 0 1 255 5 0 0", "forged 0 true", "dies 0 5",
            "worst 9 1 -> 0", "dies 0 6", "worst 9 1 -> 8");
        run("WORST: another DEED, the same HOLDER", "deed 0 1 1 5 0 0", "deed 0 1 1 6 0 0", "worst 9 1 -> 0");
        run("WORST: a LANE changes none", "deed 0 1 255 5 1 0", "deed 0 1 1 5 0 0", "worst 9 0 -> 1", "worst 9 1 -> 1");
        run("WORST: a FORGED LANE changes none", "deed 0 1 255 5 1 0", "forged 0 true", "deed 2 3 1 5 0 0",
            "worst 9 0 -> 0", "worst 9 1 -> 0");
        run("WORST: asked twice", "deed 0 1 1 5 0 0", "worst 9 1 -> 1", "worst 9 1 -> 1", "deedIs 0 4 -> 0",
            "holder 0 9 0 -> 1");
        run("WORST: all 8 STRIPS", "deed 0 1 255 5 0 0", "worst 5 1 -> 8", "worst 4 1 -> 0");
    }

    private static void promise24() {
        TWO.bounds("24: DAY 0 to 999", "missing # 1", 0, -2, 999, 8, -1);
        TWO.bounds("24: what 0 the DEED, 1 how many", "missing 10 #", 0, 0, 1, 8, -1);
        TWO.gives("24: -2: none is ENTERED by then", "missing 8 0 -> -2", "missing 8 1 -> -2", "missing 9 0 -> 0",
            "missing 9 1 -> 0", "missing 10 1 -> 8");
        EMPTY.gives("24: -2: no DEEDS", "missing 0 0 -> -2", "missing 999 1 -> -2");
        EMPTY.beyond("24: no such DAY, and none ENTERED", "missing # 0", -1, -1, 1000);
        EMPTY.beyond("24: no such what, and none ENTERED", "missing 0 #", -1, -1, 2);
        SENT.gives("24: -2: none is ENTERED at all", "missing 999 0 -> -2", "missing 999 1 -> -2");
    }

    private static void promise24LikeOnes() {
        run("MISSING: of like ones the lowest that is ENTERED by then", "deed 0 1 1 5 0 0", "deed 0 2 1 5 0 0",
            "deed 0 3 1 5 0 0", "enter 2 7 0 0 0", "enter 1 8 0 0 0", "missing 7 0 -> 2", "missing 8 0 -> 1",
            "missing 8 1 -> 0");
        run("MISSING: one that is ENTERED later is not asked about", "law 0 b(c=1)", "deed 0 1 1 5 0 0",
            "deed 0 2 1 5 0 0", "enter 1 9 0 0 0", "missing 8 0 -> -2", "missing 9 0 -> 1", "missing 9 1 -> 1");
        run("MISSING: the one that changes most", "law 0 b(c=1)", "deed 0 1 7 5 0 0", "deed 0 2 1 5 0 0",
            "deed 0 3 6 5 0 0", "enter 1 9 0 0 0", "enter 2 9 0 0 0", "missing 9 0 -> 2", "missing 9 1 -> 2");
        FULL.gives("MISSING: with 40 DEEDS", "missing 38 0 -> -2", "missing 39 0 -> 0");
    }

    private static void promise25People() {
        TWO.bounds("25: STRIPS 0 to 7", "trial # 1 3 11 0 -1 12 0", 0, 3, 7, 3, -1);
        TWO.bounds("25: GIVER 0 to 9", "trial 0 # 3 11 0 -1 12 0", 0, 1, 9, 1, -1);
        TWO.bounds("25: TAKER 0 to 9", "trial 0 1 # 11 0 -1 12 0", 0, 0, 9, 9, -1);
        for (int p = 0; p < 10; p++) {
            TWO.refuses("25: two different PEOPLE", "trial 0 " + p + " " + p + " 11 0 -1 12 0 -> -1");
        }
        TWO.bounds("25: PAID 0 to 9999", "trial 0 1 3 11 # -1 12 0", 0, 3, 9999, 3, -1);
        TWO.bounds("25: what 0 HOLDER, 1 WHY", "trial 0 1 3 11 0 -1 12 #", 0, 3, 1, 0, -1);
    }

    private static void promise25Days() {
        TWO.bounds("25: DAY 0 to 999", "trial 0 1 3 # 0 -1 999 0", 0, 1, 999, 3, -1);
        TWO.bounds("25: by a DAY 0 to 999", "trial 0 1 3 11 0 -1 # 1", 0, 1, 999, 0, -1);
        TWO.gives("25: by a DAY ahead of its own: 1 it is of a later DAY", "trial 0 1 3 11 0 -1 10 1 -> 1",
            "trial 0 1 3 11 0 -1 11 1 -> 0", "trial 0 1 3 11 0 -1 10 0 -> 1", "trial 0 1 3 11 0 -1 11 0 -> 3");
    }

    private static void promise25Entered() {
        TWO.gives("25: ENTERED from its own DAY on at least", "trial 0 1 3 11 0 11 12 0 -> 3",
            "trial 0 1 3 11 0 999 12 0 -> 3");
        TWO.beyond("25: ENTERED ahead of its DAY", "trial 0 1 3 11 0 # 12 0", -1, 10, 0);
        TWO.beyond("25: no such DAY", "trial 0 1 3 11 0 # 12 0", -1, -2, 1000);
        TWO.gives("25: NONE: not ENTERED", "trial 0 1 3 11 0 -1 12 0 -> 3", "trial 0 0 3 7 0 -1 12 1 -> 4");
        TWO.gives("25: ENTERED on a lower DAY (8), the same (9), a higher one", "trial 0 0 3 7 0 8 12 0 -> 3",
            "trial 0 0 3 7 0 9 12 0 -> 1", "trial 0 0 3 7 0 10 12 0 -> 1", "trial 0 0 3 7 0 8 12 1 -> 0",
            "trial 0 0 3 7 0 9 12 1 -> 4");
        TWO.gives("25: of DAY 0, ENTERED from DAY 0 on", "trial 0 0 3 0 0 0 12 0 -> 3");
        TWO.gives("25: of DAY 999, ENTERED from DAY 999 on", "trial 0 1 3 999 0 999 999 0 -> 3",
            "trial 0 1 3 999 0 999 998 1 -> 1");
    }

    private static void promise25Full() {
        NEARLY_FULL.gives("25: 39 DEEDS are there", "trial 7 0 3 11 0 -1 12 0 -> 3", "trial 7 0 3 11 0 -1 12 1 -> 0");
        FULL.refuses("25: 40 DEEDS are there", "trial 7 0 3 11 0 -1 12 0 -> -1", "trial 7 0 3 11 0 -1 12 1 -> -1");
        EMPTY.gives("25: no DEEDS yet", "trial 0 0 1 0 0 -1 0 0 -> 1", "trial 0 1 2 0 0 -1 0 1 -> 5");
    }

    private static void promise25AsIfGiven() {
        run("A TRIAL: the next number: it stands behind those of its DAY", "deed 0 1 1 5 0 0",
            "trial 0 0 2 5 0 -1 9 1 -> 4", "trial 0 0 2 4 0 -1 9 1 -> 0", "trial 0 1 2 5 0 -1 9 1 -> 0",
            "trial 0 1 2 4 0 -1 9 1 -> 5");
        run("A TRIAL: not FORGED, though one that was undone was", "keep", "deed 0 1 1 5 0 0", "forged 0 true", "undo",
            "trial 0 0 1 5 0 -1 9 1 -> 0");
        run("A TRIAL: under its GIVER's NAME", "law 0 b(i=1)", "deed 0 1 1 9 0 0", "trial 0 0 2 5 0 5 9 0 -> 2");
        run("A TRIAL: its GIVER was dead", "dies 0 5", "trial 0 0 1 5 0 -1 9 1 -> 3", "trial 0 0 1 4 0 -1 9 1 -> 0");
        run("A TRIAL: as if: it is not there then", "trial 0 0 1 5 0 5 9 0 -> 1", "count 0 -> 0", "holder 0 9 0 -> 0",
            "deed 2 3 1 5 0 0 -> 0", "known 0 0 -> -2", "known 2 0 -> 5", "deedIs 0 1 -> -1");
        run("A TRIAL: as if: the others stand as before", "deed 0 1 1 5 0 0", "deed 1 2 1 7 0 0",
            "trial 0 0 3 0 0 -1 9 0 -> 3", "holder 0 9 0 -> 2", "trial 0 1 3 6 0 -1 9 0 -> 3", "holder 0 9 0 -> 2",
            "trial 0 2 3 8 0 -1 9 0 -> 3", "holder 0 9 0 -> 2", "till 0 0 3 0 0 9 -> 9", "holder 0 9 0 -> 2",
            "holder 0 9 2 -> 2");
    }

    private static void promise26() {
        TWO.bounds("26: STRIPS 0 to 7", "till # 1 3 11 0 12", 0, 12, 7, 12, -1);
        TWO.bounds("26: GIVER 0 to 9", "till 0 # 3 11 0 12", 0, -2, 9, -2, -1);
        TWO.bounds("26: TAKER 0 to 9", "till 0 1 # 11 0 12", 0, 12, 9, 12, -1);
        for (int p = 0; p < 10; p++) {
            TWO.refuses("26: two different PEOPLE", "till 0 " + p + " " + p + " 11 0 12 -> -1");
        }
        TWO.bounds("26: DAY 0 to 999", "till 0 1 3 # 0 999", 0, -2, 999, 999, -1);
        TWO.bounds("26: PAID 0 to 9999", "till 0 1 3 11 # 12", 0, 12, 9999, 12, -1);
        TWO.bounds("26: by a DAY not ahead of its own (11), not behind 999", "till 0 1 3 11 0 #", 11, 11, 999, 999, -1);
        TWO.beyond("26: by no such DAY", "till 0 1 3 11 0 #", -1, -1, 0);
        NEARLY_FULL.gives("26: 39 DEEDS are there", "till 7 0 3 11 0 12 -> 12");
        FULL.refuses("26: 40 DEEDS are there", "till 7 0 3 11 0 12 -> -1");
        EMPTY.gives("26: no DEEDS yet", "till 0 0 1 0 0 0 -> 0", "till 0 0 1 0 0 999 -> 999",
            "till 0 1 2 0 0 999 -> -2");
    }

    private static void promise26Last() {
        TWO.gives("TILL: the last DAY .. so that its TAKER is HOLDER: the DAY ahead of 9", "till 0 0 3 7 0 12 -> 8",
            "till 0 0 3 8 0 12 -> 8", "till 0 0 3 7 0 8 -> 8");
        TWO.gives("TILL: -2: from no DAY on", "till 0 0 3 9 0 12 -> -2", "till 0 0 3 12 0 12 -> -2");
        TWO.gives("TILL: not ahead of its own, not behind the DAY asked about", "till 0 1 3 11 0 11 -> 11",
            "till 0 1 3 999 0 999 -> 999");
        run("TILL: on its own DAY alone", "law 0 b(f=1)", "deed 0 1 1 6 0 0", "deed 1 2 1 7 0 0",
            "till 0 0 1 6 0 6 -> 6");
        run("TILL: FOUND on e's DAY at the latest", "law 0 b(f=0)", "deed 0 1 1 8 0 0", "till 0 0 2 5 0 9 -> 8",
            "till 0 0 2 5 0 7 -> 7", "till 0 0 2 8 0 9 -> 9");
        run("TILL: the DAY ahead of the one of another ENTRY", "law 0 b(c=1)", "deed 0 1 1 5 0 0", "enter 0 20 0 0 0",
            "till 0 0 2 7 0 30 -> 19", "till 0 0 2 19 0 30 -> 19", "till 0 0 2 20 0 30 -> -2",
            "till 0 0 2 7 0 19 -> 19");
        run("TILL: the DAY itself of another ENTRY", "law 0 b(c=1)", "deed 0 1 1 10 0 0", "enter 0 20 0 0 0",
            "till 0 0 2 5 0 30 -> 20", "till 0 0 2 5 0 20 -> 20", "till 0 0 2 5 0 19 -> 19");
        run("TILL: it is not there then", "till 0 0 1 5 0 9 -> 9", "count 0 -> 0", "holder 0 9 0 -> 0");
    }

    private static void promise27() {
        TWO.bounds("27: STRIPS 0 to 7", "fewest # 0 12 -1", 0, 2, 7, 2, -1);
        TWO.bounds("27: PEOPLE 0 to 9", "fewest 0 # 12 -1", 0, 2, 9, -2, -1);
        TWO.bounds("27: DAY 0 to 999", "fewest 0 0 # -1", 0, 0, 999, 2, -1);
        TWO.beyond("27: no such STRIP, whatever the what", "fewest # 0 12 3", -1, -1, 8);
        EMPTY.gives("27: no DEEDS yet", "fewest 0 0 0 -1 -> 0", "fewest 0 1 0 -1 -> -2", "fewest 0 0 0 0 -> -2");
        int[] others = {Integer.MIN_VALUE, -3, -2, 2, 3, Integer.MAX_VALUE};
        for (int what : others) {
            TWO.gives("27: -2: no such place", "fewest 0 0 12 " + what + " -> -2");
        }
        TWO.gives("27: place 0 and 1", "fewest 0 0 12 0 -> 0", "fewest 0 0 12 1 -> 1");
    }

    private static void promise27HowMany() {
        Edges five = new Edges(R, Script.of("deed 0 1 1 5 0 0", "deed 0 2 1 6 0 0", "deed 0 3 1 7 0 0",
            "deed 0 4 1 8 0 0", "deed 0 5 1 9 0 0"));
        five.gives("27: (0: it is HOLDER)", "fewest 0 1 9 -1 -> 0", "fewest 0 1 9 0 -> -2");
        five.gives("27: one", "fewest 0 2 9 -1 -> 1", "fewest 0 2 9 0 -> 0", "fewest 0 2 9 1 -> -2");
        five.gives("27: two", "fewest 0 3 9 -1 -> 2", "fewest 0 3 9 1 -> 1", "fewest 0 3 9 2 -> -2");
        five.gives("FEWEST: 3 at most", "fewest 0 4 9 -1 -> 3", "fewest 0 4 9 0 -> 0", "fewest 0 4 9 1 -> 1",
            "fewest 0 4 9 2 -> 2", "fewest 0 4 9 3 -> -2");
        five.gives("27: -2: not by 3", "fewest 0 5 9 -1 -> -2", "fewest 0 5 9 0 -> -2", "fewest 0 5 9 2 -> -2",
            "fewest 0 0 9 -1 -> -2");
        five.gives("FEWEST: by a DAY", "fewest 0 0 7 -1 -> 3", "fewest 0 0 4 -1 -> 0", "fewest 0 4 7 -1 -> -2");
        FULL.gives("FEWEST: of 40", "fewest 0 2 999 -1 -> 0", "fewest 0 1 999 0 -> 39", "fewest 0 3 999 -1 -> -2");
    }

    private static void promise27LikeOnes() {
        run("FEWEST: of like ones the least row: of one", "deed 0 1 1 5 0 0", "deed 1 2 1 6 0 0", "deed 2 1 1 7 0 0",
            "deed 1 3 1 8 0 0", "deed 3 1 1 9 0 0", "deed 1 4 1 10 0 0", "holder 0 10 0 -> 4", "fewest 0 1 10 -1 -> 1",
            "fewest 0 1 10 0 -> 5", "fewest 0 3 10 0 -> 4", "fewest 0 0 10 0 -> 0");
        run("FEWEST: of like ones the least row: the first place counts", "deed 0 1 1 10 0 0", "deed 1 2 1 20 0 0",
            "deed 1 4 1 21 0 0", "deed 0 3 1 11 0 0", "deed 0 9 1 12 0 0", "deed 1 9 1 22 0 0", "fewest 0 9 60 -1 -> 2",
            "fewest 0 9 60 0 -> 0", "fewest 0 9 60 1 -> 3");
        run("FEWEST: one that is FORGED already does not count", "deed 0 1 1 5 0 0", "deed 0 2 1 6 0 0",
            "deed 0 3 1 7 0 0", "forged 0 true", "fewest 0 3 9 -1 -> 1", "fewest 0 3 9 0 -> 1");
    }

    private static void promise28Bounds() {
        SENT.bounds("28: STRIPS 0 to 7", "odds # 1 1 6 99 0", 0, 1, 7, 1, -1);
        SENT.bounds("28: PEOPLE 0 to 9", "odds 0 # 1 6 99 0", 0, 0, 9, 0, -1);
        SENT.bounds("28: sent on a DAY 0 to 999, not ahead of theirs (5)", "odds 0 1 1 # 999 0", 5, 1, 999, 1, -1);
        SENT.beyond("28: sent on no such DAY", "odds 0 1 1 # 999 0", -1, -1);
        SENT.bounds("28: by a DAY 0 to 999", "odds 0 1 1 6 # 0", 0, 0, 999, 1, -1);
        SENT.bounds("28: what 0 above, 1 below the line", "odds 0 1 1 6 99 #", 0, 1, 1, 1, -1);
    }

    private static void promise28Which() {
        EMPTY.refuses("28: no DEEDS yet", "odds 0 0 1 0 9 0 -> -1", "odds 0 0 0 0 9 0 -> -1");
        SENT.gives("28: the first DEED and the last one", "odds 0 1 1 6 99 0 -> 1", "odds 0 2 2 6 99 0 -> 1");
        String[] none = {"0", "4", "5", "6", "1099511627776", "1099511627777", "4294967296", "4294967297", "2147483649",
            "-1", "-9223372036854775808", "-9223372036854775807", "9223372036854775807", "549755813888"};
        for (String deeds : none) {
            SENT.refuses("28: no such DEEDS", "odds 0 1 " + deeds + " 6 99 0 -> -1");
        }
        TWO.refuses("28: one is ENTERED", "odds 0 1 1 9 99 0 -> -1", "odds 0 1 2 9 99 0 -> -1",
            "odds 0 1 3 9 99 0 -> -1");
        TWO.refuses("28: one is ENTERED, if from a later DAY on", "odds 0 1 1 6 99 0 -> -1");
        SENT.refuses("28: one is of a later DAY", "odds 0 1 3 5 99 0 -> -1", "odds 0 1 2 5 99 0 -> -1",
            "odds 0 1 1 4 99 0 -> -1");
        FULL.gives("28: the last of 40", "odds 0 2 549755813888 40 99 0 -> 1", "odds 0 2 549755813888 40 99 1 -> 1");
        FULL.refuses("28: the last of 40, of a later DAY", "odds 0 2 549755813888 39 99 0 -> -1");
        FULL.refuses("28: none behind it", "odds 0 2 1099511627776 40 99 0 -> -1",
            "odds 0 2 1649267441664 40 99 0 -> -1");
    }

    private static void promise28HowMany() {
        Edges six = new Edges(R, Script.of("law 0 b(c=1)").times(6, "deed 0 1 1 # 0 0"));
        six.gives("ODDS: some DEEDS (1 to 4)", "odds 0 1 1 9 99 0 -> 1", "odds 0 1 3 9 99 0 -> 1",
            "odds 0 1 7 9 99 0 -> 1", "odds 0 1 15 9 99 0 -> 1", "odds 0 1 15 9 99 1 -> 1", "odds 0 0 15 9 99 0 -> 0",
            "odds 0 0 15 9 99 1 -> 1", "odds 0 1 60 9 99 0 -> 1");
        six.refuses("ODDS: 0 and 5 and 6", "odds 0 1 0 9 99 0 -> -1", "odds 0 1 31 9 99 0 -> -1",
            "odds 0 1 62 9 99 0 -> -1", "odds 0 1 63 9 99 0 -> -1");
    }

    private static void promise28Days() {
        Edges one = new Edges(R, RACE.and("lose 0", "lose 1"));
        String each = "ODDS: each in 1 to 7 DAYS: ";
        one.gives(each + "by the DAY on which it is sent none has come", "odds 0 2 2 10 10 0 -> 0",
            "odds 0 2 2 10 10 1 -> 1");
        for (int late = 1; late < 7; late++) {
            one.gives(each + "by " + late + " behind", "odds 0 2 2 10 " + (10 + late) + " 0 -> " + late,
                "odds 0 2 2 10 " + (10 + late) + " 1 -> 7", "odds 0 1 2 10 " + (10 + late) + " 0 -> " + (7 - late));
        }
        one.gives(each + "by the seventh all have", "odds 0 2 2 10 17 0 -> 1", "odds 0 2 2 10 17 1 -> 1",
            "odds 0 2 2 10 18 0 -> 1", "odds 0 1 2 10 17 0 -> 0");
        one.gives(each + "behind DAY 999", "odds 0 2 2 999 999 0 -> 0", "odds 0 2 2 998 999 0 -> 1",
            "odds 0 2 2 998 999 1 -> 7", "odds 0 2 2 992 999 0 -> 1", "odds 0 2 2 993 999 0 -> 6");
    }

    /** Of two mules the second comes on a lower day in 21 of 49 ways; of four the last in 441 of 2401. */
    private static void promise28Fraction() {
        SENT.gives("28: without a common divisor: 21 of 49", "odds 0 2 3 10 99 0 -> 3", "odds 0 2 3 10 99 1 -> 7",
            "odds 0 1 3 10 99 0 -> 4", "odds 0 1 3 10 99 1 -> 7");
        SENT.gives("28: without a common divisor: 0 of 49", "odds 0 3 3 10 99 0 -> 0", "odds 0 3 3 10 99 1 -> 1");
        SENT.gives("28: without a common divisor: 49 of 49", "odds 0 1 3 10 10 0 -> 1", "odds 0 1 3 10 10 1 -> 1");
        SENT.gives("28: of 49: the second on the first DAY, the first not", "odds 0 2 3 10 11 0 -> 6",
            "odds 0 2 3 10 11 1 -> 49");
        Edges four = new Edges(R, Script.of("law 0 b(c=1)", "deed 0 1 1 5 0 0", "deed 0 2 1 5 0 0", "deed 0 3 1 5 0 0",
            "deed 0 4 1 5 0 0"));
        four.gives("28: of 343 and 2401", "odds 0 3 7 10 99 0 -> 13", "odds 0 3 7 10 99 1 -> 49",
            "odds 0 4 15 10 99 0 -> 9", "odds 0 4 15 10 99 1 -> 49", "odds 0 4 15 10 11 0 -> 216",
            "odds 0 4 15 10 11 1 -> 2401", "odds 0 3 7 10 11 0 -> 36", "odds 0 3 7 10 11 1 -> 343");
        run("28: one after another", "law 0 b(c=1)", "deed 0 1 1 5 0 0", "deed 0 2 1 5 0 0", "odds 0 2 3 10 99 0 -> 3",
            "odds 0 2 3 10 99 1 -> 7", "odds 0 1 1 10 99 0 -> 1", "odds 0 1 0 10 99 0 -> -1", "odds 0 2 2 10 11 0 -> 1",
            "odds 0 2 2 10 11 1 -> 7", "odds 0 2 3 10 99 0 -> 3");
        run("28: X and the ENTRIES stay", "deed 0 1 1 5 0 0", "odds 0 1 1 5 9 0 -> 1", "count 4 -> 1",
            "deedIs 0 1 -> -1", "deedIs 0 2 -> -1", "deedIs 0 3 -> 0");
    }
}
