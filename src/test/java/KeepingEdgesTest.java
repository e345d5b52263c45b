/** Each sentence of promises 34 to 39 that names an edge: the seed, what is kept, checks, and what can be read back. */
public final class KeepingEdgesTest {
    private static final Report R = new Report("KeepingEdgesTest");
    private static final Edges SOME = new Edges(R, Offices.SOME);
    private static final Edges EMPTY = new Edges(R, Offices.EMPTY);
    private static final Edges FULL = new Edges(R, Offices.FULL);

    public static void main(String[] args) {
        promise34();
        promise35();
        promise36();
        promise36Full();
        promise36Talk();
        promise36Stays();
        promise37Bounds();
        promise37FirstWrong();
        promise37Lacking();
        promise37EmptyThen();
        promise38();
        promise38Facts();
        promise39();
        promise39Others();
        questionsChangeNothing();
        theLastCall();
        R.close();
    }

    private static void run(String sentence, String... rows) {
        Edges.run(R, sentence, rows);
    }

    private static void promise34() {
        SOME.bounds("34: THE SEED (0 to 65535)", "seed #", 0, 1, 65535, 1, 0);
        run("34: X, too: the lowest", "seed 0 -> 1", "count 4 -> 0", "deed 0 1 1 5 0 0", "mule 0 5 0 0 0 -> 9",
            "count 4 -> 13849");
        run("34: X, too: the highest", "seed 65535 -> 1", "count 4 -> 65535", "deed 0 1 1 5 0 0",
            "mule 0 5 0 0 0 -> 10", "count 4 -> 54212");
        run("34: the same again", "seed 1 -> 1", "seed 1 -> 1", "count 4 -> 1");
    }

    private static void promise35() {
        EMPTY.gives("35: how many DEEDS there are: none", "keep -> 0");
        SOME.gives("35: how many DEEDS there are: ten", "keep -> 10");
        FULL.gives("35: how many DEEDS there are: 40", "keep -> 40");
        run("35: KEPT last", "keep -> 0", "deed 0 1 1 5 0 0", "keep -> 1", "deed 0 1 1 5 0 0", "undo -> 1",
            "count 0 -> 1");
    }

    private static void promise36() {
        EMPTY.refuses("36: none was KEPT", "undo -> 0");
        Edges unkept = new Edges(R, Script.of("deed 0 1 1 5 0 0", "enter 0 5 1 2 3", "heard 2 0 5", "well 6 3",
            "seed 7", "text b(1=1)"));
        unkept.refuses("36: none was KEPT, though there is something", "undo -> 0");
        run("36: KEPT with nothing there", "keep", "deed 0 1 1 5 0 0", "enter 0 5 1 2 3", "heard 2 0 5", "well 6 3",
            "seed 7", "undo -> 1", "count 0 -> 0", "count 1 -> 0", "count 2 -> 0", "count 4 -> 1",
            "deedIs 0 0 -> -1000", "holder 0 9 0 -> 0");
        run("36: UNDONE twice", "deed 0 1 1 5 0 0", "keep", "forged 0 true", "undo -> 1", "undo -> 1",
            "deedIs 0 4 -> 0", "forged 0 true", "undo -> 1", "deedIs 0 4 -> 0");
        run("36: all DEEDS, ENTRIES as they were", "deed 0 1 1 5 0 0", "enter 0 8 1 2 3", "name 0 7",
            "deed 0 2 1 6 0 0", "forged 1 true", "keep", "lose 0", "enter 0 5 4 4 4", "forged 1 false",
            "enter 1 9 5 5 5", "forged 0 true", "undo", "deedIs 0 1 -> 8", "deedIs 0 2 -> 7", "deedIs 0 3 -> 14",
            "deedIs 0 4 -> 0", "deedIs 1 1 -> -1", "deedIs 1 4 -> 1");
        run("36: their order as it was", "deed 0 1 1 5 0 0", "deed 1 2 1 7 0 0", "keep", "deed 0 3 1 4 0 0",
            "deed 1 4 1 6 0 0", "holder 0 9 0 -> 3", "undo", "holder 0 9 0 -> 2", "holder 0 9 10 -> 0",
            "holder 0 9 11 -> 1");
        run("36: X as it was", "seed 9", "keep", "deed 0 1 1 5 0 0", "mule 0 5 0 0 0", "undo", "count 4 -> 9");
    }

    private static void promise36Full() {
        Edges kept = new Edges(R, Offices.EMPTY.and("keep").times(40, "deed 0 1 1 # 0 0").times(60, "heard 2 0 #")
            .times(20, "well # 3").and("undo"));
        kept.gives("36: from full to empty: there is place again", "deed 0 1 1 5 0 0 -> 0", "well 5 3 -> 1",
            "count 0 -> 0", "count 1 -> 0", "count 2 -> 0");
        Edges full = new Edges(R, Script.of().times(40, "deed 0 1 1 # 0 0").times(60, "heard 2 0 #")
            .times(20, "well # 3").and("keep", "forged 39 true", "undo"));
        full.refuses("36: full as it was", "deed 0 1 1 5 0 0 -> -1", "heard 2 0 5 -> -1", "well 5 3 -> -1");
        full.gives("36: full as it was", "count 0 -> 40", "count 1 -> 60", "count 2 -> 20", "deedIs 39 4 -> 0",
            "known 2 0 -> 0");
    }

    private static void promise36Talk() {
        run("36: all HEARINGS, WELLS as they were", "deed 0 1 1 5 0 0", "heard 2 0 7", "well 9 12", "keep",
            "heard 2 0 6", "well 8 12", "known 2 0 -> 6", "known 3 0 -> 8", "undo", "known 2 0 -> 7", "known 3 0 -> 9",
            "count 1 -> 1", "count 2 -> 1");
        run("36: each WELL with its own PEOPLE as they were", "deed 0 1 1 5 0 0", "well 9 5", "well 9 12", "keep",
            "well 8 48", "known 3 0 -> 9", "undo", "known 2 0 -> 9", "known 3 0 -> 9", "known 5 0 -> -2");
        run("36: WELLS go as they were told, when told anew, too", "deed 0 1 1 5 0 0", "keep", "well 9 12", "undo",
            "well 9 5", "well 9 12", "known 3 0 -> 9");
    }

    private static void promise36Stays() {
        run("36: not LAWS", "keep", "law 0 b(1=1)", "undo", "count 10 -> 1");
        run("36: not STRIPS", "keep", "strip 3 4 2", "undo", "holder 3 0 0 -> 4", "count 33 -> 2");
        run("36: not deaths", "keep", "dies 3 5", "undo", "count 23 -> 5");
        run("36: not BUYERS", "buyer 0 5 7 9", "keep", "buyer 1 5 9 9", "hears 1 0 0", "undo", "widow 0 -> 9");
        run("36: nor the tape", "keep", "feed 0 0 0 0 0", "undo", "count 3 -> 20");
    }

    private static void promise37Bounds() {
        Edges right = new Edges(R, Script.of("feed 0 0 0 0 0", "feed 0 0 0 0 0"));
        right.bounds("37: DAY 0 to 999", "check # 8", 0, -1, 999, -1, -2);
        right.bounds("37: the first n numbers, as many as it has (10)", "check 0 #", 0, 0, 10, 8, -2);
        right.beyond("37: it has not so many", "check 0 #", -2, -1, 11, 40, 1 << 30, 1 << 29, 0x40000008, -2147483640);
        EMPTY.gives("37: no numbers: some are lacking", "check 0 0 -> 0", "check 999 0 -> 0");
        EMPTY.beyond("37: it has not so many: the tape is empty", "check 0 #", -2, 1, 8);
        EMPTY.beyond("37: no such DAY", "check # 0", -2, -1, 1000);
        FULL.gives("37: 50 numbers", "check 0 50 -> 0");
        FULL.beyond("37: 51 numbers", "check 0 #", -2, 51);
        SOME.refuses("37: (the tape stays)", "check 0 11 -> -2", "check 1000 8 -> -2", "check -1 8 -> -2",
            "check 0 -1 -> -2");
    }

    private static void promise37FirstWrong() {
        for (int s = 0; s < 8; s++) {
            StringBuilder one = new StringBuilder("feed");
            StringBuilder two = new StringBuilder("feed");
            for (int i = 0; i < 10; i++) {
                (i < 5 ? one : two).append(i == s ? " 9" : " 0");
            }
            Edges wrong = new Edges(R, Script.of(one.toString(), two.toString()));
            wrong.gives("37: the place of the first number that is not so", "check 5 8 -> " + s, "check 5 9 -> " + s,
                "check 5 " + (s + 1) + " -> " + s, "check 5 " + s + " -> " + s);
            run("37: right: HOLDERS of STRIPS 0, 1, ..", "strip " + s + " 9 0", one.toString(), two.toString(),
                "check 5 8 -> -1");
        }
        run("37: the first of two", "feed 0 3 0 4 0", "feed 0 0 0 0 0", "check 5 8 -> 1");
        run("37: by the DAY", "deed 0 1 1 5 0 0", "feed 1 0 0 0 0", "feed 0 0 0 0 0", "check 5 8 -> -1",
            "feed 1 0 0 0 0", "feed 0 0 0 0 0", "check 4 8 -> 0");
        run("37: four bytes each", "feed 0 16777216 0 0 0", "feed 0 0 0 0 0", "check 5 8 -> 1", "feed 0 0 65536 0 0",
            "feed 0 0 0 0 0", "check 5 8 -> 2", "feed 256 0 0 0 0", "feed 0 0 0 0 0", "check 5 8 -> 0",
            "feed -2147483648 0 0 0 0", "feed 0 0 0 0 0", "check 5 8 -> 0", "feed 0 0 0 -1 0", "feed 0 0 0 0 0",
            "check 5 8 -> 3");
    }

    private static void promise37Lacking() {
        Edges right = new Edges(R, Script.of("feed 0 0 0 0 0", "feed 0 0 0 0 0"));
        for (int n = 0; n < 8; n++) {
            right.gives("37: (n: some are lacking)", "check 5 " + n + " -> " + n);
        }
        right.gives("37: NONE: right", "check 5 8 -> -1");
        right.gives("37: there is no ninth STRIP: that number is not so", "check 5 9 -> 8", "check 5 10 -> 8");
    }

    private static void promise37EmptyThen() {
        run("37: empty then: right", "feed 0 0 0 0 0", "feed 0 0 0 0 0", "check 5 8 -> -1", "count 3 -> 0",
            "check 5 1 -> -2");
        run("37: empty then: not so", "feed 9 0 0 0 0", "check 5 5 -> 0", "count 3 -> 0", "check 5 1 -> -2");
        run("37: empty then: some are lacking", "feed 0 0 0 0 0", "check 5 0 -> 0", "count 3 -> 0", "law 0 1 -> -1");
        run("37: (the tape stays)", "feed 0 0 0 0 0", "check 5 6 -> -2", "check 1000 5 -> -2", "count 3 -> 20",
            "check 5 5 -> 5");
        String emptied = States.of(() -> Offices.SOME.and("law 0 5").office());
        for (int n = 0; n <= 10; n++) {
            String call = "check 20 " + n;
            R.due("37: it changes nothing but the tape | " + call,
                States.of(() -> Offices.SOME.and(call).office()).equals(emptied), true);
        }
        run("37: what was on the tape before is gone", "feed 9 9 9 9 9", "check 5 0", "feed 0 0 0 0 0",
            "check 5 6 -> -2", "check 5 5 -> 5");
    }

    private static void promise38() {
        SOME.bounds("38: DEEDS that are there", "deedIs # 0", 0, 10, 9, 40, -1000);
        SOME.bounds("38: what 0 to 4", "deedIs 0 #", 0, 10, 4, 0, -1000);
        EMPTY.beyond("38: -1000 for others: no DEEDS yet", "deedIs # 0", -1000, -1, 0, 39);
        FULL.bounds("38: all 40", "deedIs # 0", 0, 0, 39, 40, -1000);
        FULL.beyond("38: of others no what", "deedIs 40 #", -1000, 0, 1, 2, 3, 4, 5, -1);
    }

    private static void promise38Facts() {
        run("38: 1 from which DAY on it is ENTERED (NONE: not), 2 NAME (NONE), 3 PAGES (0)", "deed 9 1 1 0 0 0",
            "deedIs 0 0 -> 0", "deedIs 0 1 -> -1", "deedIs 0 2 -> -1", "deedIs 0 3 -> 0", "enter 0 0 0 0 0",
            "deedIs 0 1 -> 0", "deedIs 0 2 -> 9", "deedIs 0 3 -> 1", "name 0 0", "deedIs 0 2 -> 0", "lose 0",
            "deedIs 0 1 -> -1", "deedIs 0 2 -> -1", "deedIs 0 3 -> 0", "enter 0 999 13 12 11", "deedIs 0 1 -> 999",
            "deedIs 0 3 -> 14336");
        run("38: 4 whether it is VOID", "deed 9 1 1 999 0 0", "deedIs 0 0 -> 999", "deedIs 0 4 -> 0", "dies 9 999",
            "deedIs 0 4 -> 1", "dies 9 998", "deedIs 0 4 -> 1", "dies 9 -1", "deedIs 0 4 -> 0", "forged 0 true",
            "deedIs 0 4 -> 1");
    }

    private static void promise39() {
        SOME.gives("39: 0 DEEDS, 1 HEARINGS, 2 WELLS, 3 bytes of the tape, 4 X", "count 0 -> 10", "count 1 -> 3",
            "count 2 -> 2", "count 3 -> 40", "count 4 -> 777");
        FULL.gives("39: as many as there can be", "count 0 -> 40", "count 1 -> 60", "count 2 -> 20", "count 3 -> 200",
            "count 10 -> 12", "count 11 -> 12", "count 12 -> 12");
        SOME.gives("39: 10 + i CLAUSES of LAW i", "count 10 -> 3", "count 11 -> 1", "count 12 -> 1");
        SOME.gives("39: 20 + p the DAY on which PERSON p DIES", "count 28 -> 500", "count 27 -> -1", "count 29 -> -1");
        SOME.gives("39: 30 + s the LAW of STRIP s", "count 30 -> 0", "count 31 -> 1", "count 32 -> 2", "count 37 -> 1");
        run("39: the first and the last PERSON, on the first and the last DAY", "dies 0 0", "dies 9 999",
            "count 20 -> 0", "count 29 -> 999");
    }

    private static void promise39Others() {
        Edges told = new Edges(R, Script.of("law 0 b(1=1)", "law 2 b(1=1)", "strip 0 0 1", "strip 7 0 1",
            "feed 0 0 0 0 0").times(10, "dies # 5"));
        int[] others = {Integer.MIN_VALUE, -1, 5, 6, 7, 8, 9, 13, 14, 19, 38, 39, 40, 50, Integer.MAX_VALUE};
        for (int what : others) {
            told.gives("39: NONE for others", "count " + what + " -> -1");
        }
        told.gives("39: next to them", "count 10 -> 1", "count 12 -> 1", "count 20 -> 5", "count 29 -> 5",
            "count 30 -> 1", "count 37 -> 1", "count 4 -> 1");
    }

    /** What is only asked, or only thought of, leaves no trace. */
    private static void questionsChangeNothing() {
        SOME.leaves("a question", "known 4 0", "seen 3 0 30 1", "beats 0 0 1 30 1", "holder 0 40 0", "why 0 1 30",
            "burdens 0 30", "owed 0 30", "unseen 0 30 1", "search 0 30 1", "worst 40 0", "missing 40 0",
            "trial 0 1 6 18 5 19 50 0", "trial 0 1 6 5 5 -1 50 1", "till 0 1 6 18 5 50", "till 0 0 6 5 5 50",
            "fewest 0 2 50 0", "odds 0 2 530 40 50 0", "widow 1", "holds 1 40", "reign 0 1 0 50", "deedIs 3 2",
            "count 4");
        FULL.leaves("a question where all is full", "worst 50 0", "missing 50 0", "fewest 0 0 50 0",
            "odds 0 2 824633720832 50 60 0", "search 0 50 1", "reign 0 1 0 50");
    }

    /** An object is used for at most 512 calls. */
    private static void theLastCall() {
        WidowDeeds x = Script.of("deed 0 1 1 5 0 0").times(510, "holder 0 # 0").office();
        R.due("the 512th call", x.holder(0, 5, 0), 1);
    }
}
