/** Each sentence of promises 14, 15, 17 to 22, 32 and 33 that names an edge, and of the terms on the chain. */
public final class ChainEdgesTest {
    private static final Report R = new Report("ChainEdgesTest");
    private static final Edges SOME = new Edges(R, Offices.SOME);
    private static final Edges EMPTY = new Edges(R, Offices.EMPTY);
    private static final Edges FULL = new Edges(R, Offices.FULL);

    /** Deed 0: 1 to 2, of all strips, which were 0's, on day 5; entered from day 8 on. */
    private static final Edges WILD = new Edges(R, Script.of("deed 1 2 255 5 0 7", "enter 0 8 1 2 3"));

    /** Deed 0: 0 to 1, of all strips, on day 5; entered from day 8 on. Deed 1: a lien that 1 gives on day 6, for 9. */
    private static final Edges SOLD = new Edges(R, Script.of("deed 0 1 255 5 0 7", "enter 0 8 1 2 3",
        "deed 1 2 255 6 2 9", "enter 1 8 3 4 5"));

    public static void main(String[] args) {
        promise14();
        promise15();
        promise15Wild();
        promise15Found();
        promise17Bounds();
        promise17Places();
        promise17LongestChain();
        termsChainDays();
        termsChainOrder();
        termsChainBest();
        promise18Bounds();
        promise18EachReason();
        promise18TheLowest();
        promise19Bounds();
        promise19WhoHolds();
        promise19Void();
        promise19Shed();
        promise20();
        promise21();
        promise21Days();
        promise22Bounds();
        promise22Fewest();
        promise22Names();
        promise32();
        promise33();
        promise33Days();
        R.close();
    }

    private static void run(String sentence, String... rows) {
        Edges.run(R, sentence, rows);
    }

    private static void promise14() {
        SOME.bounds("14: PEOPLE 0 to 9", "known # 0", 0, 10, 9, -2, -1);
        SOME.bounds("14: DEEDS that are there", "known 0 #", 0, 10, 9, -2, -1);
        EMPTY.beyond("14: no DEEDS yet", "known 0 #", -1, 0, 39);
        FULL.bounds("14: all 40 DEEDS", "known 1 #", 0, 0, 39, 40, -1);
        run("14: -2: never", "deed 0 1 1 0 0 0", "known 2 0 -> -2", "known 9 0 -> -2");
        run("14: from DAY 0 and from DAY 999 on", "deed 0 1 1 0 0 0", "known 0 0 -> 0", "known 1 0 -> 0",
            "heard 2 0 999", "known 2 0 -> 999", "deed 3 4 1 999 0 0", "known 3 1 -> 999", "known 4 1 -> 999");
    }

    private static void promise15() {
        WILD.bounds("15: STRIPS 0 to 7", "seen 0 # 9 0", 0, 1, 7, 1, -1);
        WILD.beyond("15: no such STRIP", "seen 0 # 9 0", -1, 32, 64);
        WILD.bounds("15: DEEDS that are there", "seen # 0 9 0", 0, 1, 0, 1, -1);
        WILD.bounds("15: DAY 0 to 999", "seen 0 0 # 0", 0, 1, 999, 1, -1);
        WILD.bounds("15: what 0 WILD, 1 FOUND", "seen 0 0 9 #", 0, 1, 1, 0, -1);
        SOME.refuses("15: not one of its STRIPS", "seen 0 1 20 0 -> -1", "seen 0 7 20 1 -> -1", "seen 7 6 999 0 -> -1");
        EMPTY.refuses("15: no DEEDS yet", "seen 0 0 0 0 -> -1", "seen 0 0 0 1 -> -1");
    }

    private static void promise15Wild() {
        String wild = "WILD is a DEED for a STRIP on a DAY, if ..";
        run(wild + " its GIVER is not the FIRST OWNER", "deed 1 2 1 5 0 0", "seen 0 0 5 0 -> 1", "strip 0 1 0",
            "seen 0 0 5 0 -> 0", "strip 0 2 0", "seen 0 0 5 0 -> 1");
        run(wild + " no DEED .. to its GIVER is ENTERED by then", "deed 1 2 1 5 0 0", "deed 0 1 1 3 0 0",
            "seen 0 0 9 0 -> 1", "enter 1 8 0 0 0", "seen 0 0 7 0 -> 1", "seen 0 0 8 0 -> 0", "seen 0 0 999 0 -> 0",
            "lose 1", "seen 0 0 8 0 -> 1");
        run(wild + " no DEED of KIND 0", "deed 1 2 1 5 0 0", "deed 0 1 1 3 1 0", "deed 0 1 1 3 2 0", "enter 1 3 0 0 0",
            "enter 2 3 0 0 0", "seen 0 0 9 0 -> 1");
        run(wild + " no DEED of that STRIP", "deed 1 2 3 5 0 0", "deed 0 1 2 3 0 0", "enter 1 3 0 0 0",
            "seen 0 0 9 0 -> 1", "seen 0 1 9 0 -> 0");
        run(wild + " no DEED to its GIVER (not by it, not to its TAKER)", "deed 1 2 1 5 0 0", "deed 1 3 1 3 0 0",
            "deed 0 2 1 3 0 0", "enter 1 3 0 0 0", "enter 2 3 0 0 0", "seen 0 0 9 0 -> 1");
        run(wild + " (FORGED and MISNAMED ones count, later ones, too)", "deed 1 2 1 5 0 0", "deed 0 1 1 7 0 0",
            "enter 1 7 0 0 0", "forged 1 true", "name 1 9", "seen 0 0 6 0 -> 1", "seen 0 0 7 0 -> 0");
    }

    private static void promise15Found() {
        run("FOUND can it be, if it is ENTERED by then", "deed 0 1 1 5 0 0", "seen 0 0 9 1 -> 0", "enter 0 8 0 0 0",
            "seen 0 0 7 1 -> 0", "seen 0 0 8 1 -> 1", "seen 0 0 999 1 -> 1", "lose 0", "seen 0 0 999 1 -> 0");
        run("FOUND .. not MISNAMED", "deed 0 1 1 5 0 0", "enter 0 8 0 0 0", "name 0 1", "seen 0 0 8 1 -> 0", "name 0 0",
            "seen 0 0 8 1 -> 1");
        run("FOUND .. not WILD", "deed 1 2 1 5 0 0", "enter 0 8 0 0 0", "seen 0 0 9 1 -> 0", "deed 0 1 1 3 0 0",
            "enter 1 9 0 0 0", "seen 0 0 8 1 -> 0", "seen 0 0 9 1 -> 1");
    }

    private static void promise17Bounds() {
        SOLD.bounds("17: STRIPS 0 to 7", "holder # 9 0", 0, 1, 7, 1, -1);
        SOLD.bounds("17: DAY 0 to 999", "holder 0 # 0", 0, 0, 999, 1, -1);
        SOLD.beyond("17: no such STRIP, whatever the what", "holder # 9 3", -1, -1, 8);
        SOLD.beyond("17: no such DAY, whatever the what", "holder 0 # 3", -1, -1, 1000);
    }

    private static void promise17Places() {
        SOLD.gives("17: what 0 who, 1 by which DEED, 2 how many, 10 + i", "holder 0 9 0 -> 1", "holder 0 9 1 -> 0",
            "holder 0 9 2 -> 1", "holder 0 9 10 -> 0");
        int[] others = {Integer.MIN_VALUE, -10, -2, -1, 3, 4, 9, 11, 12, 49, 50, Integer.MAX_VALUE};
        for (int what : others) {
            SOLD.gives("17: -2 for other whats", "holder 0 9 " + what + " -> -2");
        }
        EMPTY.gives("17: the FIRST OWNER, by none", "holder 0 9 0 -> 0", "holder 0 9 1 -> -1", "holder 0 9 2 -> 0",
            "holder 0 9 10 -> -2", "holder 0 9 9 -> -2");
    }

    private static void promise17LongestChain() {
        Script chain = Offices.EMPTY;
        for (int d = 0; d < 40; d++) {
            chain = chain.and("deed " + d % 10 + " " + (d + 1) % 10 + " 1 7 0 0");
        }
        Edges all = new Edges(R, chain);
        all.gives("17: a CHAIN of 40", "holder 0 7 0 -> 0", "holder 0 7 1 -> 39", "holder 0 7 2 -> 40",
            "holder 0 7 10 -> 0", "holder 0 7 49 -> 39", "holder 0 7 50 -> -2", "holder 0 6 2 -> 0", "why 0 39 7 -> 0",
            "why 0 39 6 -> 1", "burdens 0 7 -> 0", "search 0 7 0 -> 0", "worst 7 0 -> 31", "worst 7 1 -> 1",
            "reign 0 0 0 9 -> 10", "holds 0 7 -> 255");
    }

    private static void termsChainDays() {
        run("THE CHAIN: of a DAY not behind that one", "deed 0 1 1 5 0 0", "holder 0 4 0 -> 0", "holder 0 5 0 -> 1",
            "holder 0 6 0 -> 1");
        run("THE CHAIN: on DAY 0", "deed 0 1 1 0 0 0", "deed 1 2 1 0 0 0", "holder 0 0 0 -> 2", "holder 0 0 2 -> 2");
        run("THE CHAIN: on DAY 999", "deed 0 1 1 999 0 0", "holder 0 998 0 -> 0", "holder 0 999 0 -> 1");
        run("THE CHAIN: of KIND 0", "deed 0 1 1 5 1 0", "deed 0 2 1 5 2 0", "holder 0 9 0 -> 0", "holder 0 9 2 -> 0");
        run("THE CHAIN: of the STRIP", "deed 0 1 2 5 0 0", "holder 0 9 0 -> 0", "holder 1 9 0 -> 1",
            "holder 2 9 0 -> 0");
        run("THE CHAIN: not VOID", "deed 0 1 1 5 0 0", "forged 0 true", "holder 0 9 0 -> 0", "forged 0 false",
            "dies 0 5", "holder 0 9 0 -> 0", "dies 0 6", "holder 0 9 0 -> 1");
        run("THE CHAIN: whose GIVER is who holds it now", "deed 1 2 1 5 0 0", "holder 0 9 0 -> 0", "deed 0 1 1 4 0 0",
            "holder 0 9 0 -> 2");
    }

    private static void termsChainOrder() {
        run("which stand behind the DEED by which: a lower DAY", "deed 0 1 1 5 0 0", "deed 1 2 1 4 0 0",
            "holder 0 9 0 -> 1");
        run("..: the same DAY, a lower number", "deed 1 2 1 5 0 0", "deed 0 1 1 5 0 0", "holder 0 9 0 -> 1");
        run("..: the same DAY, a higher number", "deed 0 1 1 5 0 0", "deed 1 2 1 5 0 0", "holder 0 9 0 -> 2");
        run("..: a higher DAY, a lower number", "deed 1 2 1 6 0 0", "deed 0 1 1 5 0 0", "holder 0 9 0 -> 2");
        run("..: back to one who held it", "deed 0 1 1 5 0 0", "deed 1 0 1 5 0 0", "deed 0 2 1 5 0 0",
            "holder 0 9 0 -> 2", "holder 0 9 2 -> 3");
        run("from the FIRST OWNER: any", "strip 0 3 0", "deed 3 1 1 0 0 0", "holder 0 0 0 -> 1");
    }

    private static void termsChainBest() {
        run("the first one is best", "deed 0 2 1 6 0 0", "deed 0 1 1 5 0 0", "deed 0 3 1 5 0 0", "holder 0 9 0 -> 1");
        run("each further one that BEATS the best one is best then: the last", "law 0 b(1=1)", "deed 0 2 1 6 0 0",
            "deed 0 1 1 5 0 0", "deed 0 3 1 6 0 0", "holder 0 9 0 -> 3", "holder 0 9 2 -> 1");
        run("..: not one that does not beat the best, though the one before", "law 0 b(p>g)", "deed 0 1 1 5 0 10",
            "deed 0 2 1 6 0 30", "deed 0 3 1 7 0 20", "holder 0 9 0 -> 2");
        run("..: like ones do not", "law 0 b(p>g)", "deed 0 1 1 5 0 10", "deed 0 2 1 6 0 10", "holder 0 9 0 -> 1");
        run("..: by THE STRIP's LAW", "law 1 b(1=1)", "strip 1 0 1", "deed 0 1 3 5 0 0", "deed 0 2 3 6 0 0",
            "holder 0 9 0 -> 1", "holder 1 9 0 -> 2");
        run("..: that DAY being asked about", "law 0 b(t=9)", "deed 0 1 1 5 0 0", "deed 0 2 1 6 0 0",
            "holder 0 8 0 -> 1", "holder 0 9 0 -> 2", "holder 0 10 0 -> 1");
    }

    private static void promise18Bounds() {
        SOLD.bounds("18: STRIPS 0 to 7", "why # 0 9", 0, 0, 7, 0, -1);
        SOLD.beyond("18: no such STRIP", "why # 0 9", -1, 32, 64);
        SOLD.bounds("18: DEEDS that are there", "why 0 # 9", 0, 0, 0, 0, -1);
        SOLD.beyond("18: no such DEED", "why 0 # 9", -1, 2, 40);
        SOLD.bounds("18: DAY 0 to 999", "why 0 0 #", 0, 1, 999, 0, -1);
        SOME.refuses("18: another KIND: a LANE", "why 0 3 20 -> -1");
        SOME.refuses("18: another KIND: a LIEN", "why 0 4 20 -> -1");
        SOME.refuses("18: no STRIP of its", "why 1 0 20 -> -1", "why 0 7 999 -> -1", "why 0 8 20 -> -1");
        EMPTY.refuses("18: no DEEDS yet", "why 0 0 0 -> -1");
        FULL.gives("18: the last of 40", "why 0 39 40 -> 0", "why 0 39 39 -> 1", "why 1 39 40 -> 5",
            "why 0 40 40 -> -1");
    }

    private static void promise18EachReason() {
        run("18: 0: it is in it", "deed 0 1 1 5 0 0", "why 0 0 5 -> 0");
        run("18: 1 it is of a later DAY", "deed 0 1 1 5 0 0", "why 0 0 4 -> 1", "why 0 0 5 -> 0");
        run("18: 2 FORGED", "deed 0 1 1 5 0 0", "forged 0 true", "why 0 0 5 -> 2");
        run("18: 3 its GIVER was dead", "deed 0 1 1 5 0 0", "dies 0 6", "why 0 0 9 -> 0", "dies 0 5", "why 0 0 9 -> 3",
            "dies 0 4", "why 0 0 9 -> 3");
        run("18: 4 BEATEN: not beating the first", "deed 0 1 1 5 0 0", "deed 0 2 1 6 0 0", "why 0 1 9 -> 4");
        run("18: 4 BEATEN: by a further one", "law 0 b(1=1)", "deed 0 1 1 5 0 0", "deed 0 2 1 6 0 0", "why 0 0 9 -> 4");
        run("18: 5 its GIVER did not hold it: never", "deed 1 2 1 5 0 0", "why 0 0 9 -> 5");
        run("18: 5 its GIVER did not hold it: not yet", "deed 1 2 1 5 0 0", "deed 0 1 1 5 0 0", "why 0 0 9 -> 5");
    }

    private static void promise18TheLowest() {
        run("18: the lowest of these: 1 of all", "deed 8 1 1 5 0 0", "forged 0 true", "dies 8 5", "why 0 0 4 -> 1");
        run("18: the lowest of these: 2 ahead of 3 and 5", "deed 8 1 1 5 0 0", "forged 0 true", "dies 8 5",
            "why 0 0 5 -> 2");
        run("18: the lowest of these: 3 ahead of 5", "deed 8 1 1 5 0 0", "dies 8 5", "why 0 0 5 -> 3");
        run("18: 4: looked at from one holder is enough", "deed 0 1 1 5 0 0", "deed 0 3 1 7 0 0", "deed 1 2 1 8 0 0",
            "why 0 1 9 -> 4");
        run("18: 0 ahead of 4: looked at first, in it later", "deed 0 1 1 5 0 0", "deed 0 2 1 7 0 0",
            "deed 1 0 1 6 0 0", "why 0 1 9 -> 0");
    }

    private static void promise19Bounds() {
        SOLD.bounds("19: STRIPS 0 to 7", "burdens # 9", 0, 2, 7, 2, -1);
        SOLD.bounds("19: DAY 0 to 999", "burdens 0 #", 0, 0, 999, 2, -1);
        SOLD.gives("19: of a DAY not behind that one", "burdens 0 5 -> 0", "burdens 0 6 -> 2");
        EMPTY.gives("19: no DEEDS yet", "burdens 0 0 -> 0", "burdens 7 999 -> 0");
        Edges all = new Edges(R, Script.of().times(40, "deed 0 1 1 # 2 9999"));
        all.gives("19: as bits: all 40", "burdens 0 39 -> 1099511627775", "burdens 0 38 -> 549755813887",
            "burdens 0 0 -> 1", "burdens 1 39 -> 0");
        all.gives("20: together: all 40", "owed 0 39 -> 399960", "owed 0 0 -> 9999");
        run("19: a DEED of KIND 0 is none", "deed 0 1 1 5 0 9", "burdens 0 9 -> 0");
    }

    private static void promise19WhoHolds() {
        String at = "whose GIVER holds the STRIP at that place of THE CHAIN: ";
        run(at + "ahead of all DEEDS", "deed 0 5 1 4 1 0", "deed 0 1 1 5 0 0", "burdens 0 9 -> 1");
        run(at + "the same DAY, a lower number", "deed 0 5 1 5 1 0", "deed 0 1 1 5 0 0", "burdens 0 9 -> 1");
        run(at + "the same DAY, a higher number", "deed 0 1 1 5 0 0", "deed 0 5 1 5 1 0", "burdens 0 9 -> 0");
        run(at + "its TAKER, the same DAY, a higher number", "deed 0 1 1 5 0 0", "deed 1 5 1 5 1 0",
            "burdens 0 9 -> 2");
        run(at + "its TAKER, the same DAY, a lower number", "deed 1 5 1 5 1 0", "deed 0 1 1 5 0 0", "burdens 0 9 -> 0");
        run(at + "between two", "deed 0 1 1 5 0 0", "deed 1 2 1 7 0 0", "deed 1 5 1 6 1 0", "deed 0 5 1 6 1 0",
            "deed 2 5 1 6 1 0", "burdens 0 9 -> 4");
        run(at + "of another STRIP it is none", "deed 0 5 2 4 1 0", "burdens 0 9 -> 0", "burdens 1 9 -> 1");
    }

    private static void promise19Void() {
        run("19: not VOID", "deed 0 5 1 5 1 0", "burdens 0 9 -> 1", "forged 0 true", "burdens 0 9 -> 0",
            "forged 0 false", "dies 0 5", "burdens 0 9 -> 0", "dies 0 6", "burdens 0 9 -> 1");
    }

    private static void promise19Shed() {
        String shed = "which no DEED of THE CHAIN that stands behind it SHEDS: ";
        run(shed + "behind it", "law 0 s(1=1)", "deed 0 5 1 5 1 0", "deed 0 1 1 5 0 0", "burdens 0 4 -> 0",
            "burdens 0 5 -> 0");
        run(shed + "not ahead of it", "law 0 s(1=1)", "deed 0 1 1 5 0 0", "deed 1 5 1 5 1 0", "burdens 0 5 -> 2");
        run(shed + "of a DAY behind that one there is none", "law 0 s(1=1)", "deed 0 5 1 5 1 0", "deed 0 1 1 6 0 0",
            "burdens 0 5 -> 1", "burdens 0 6 -> 0");
        run(shed + "not in THE CHAIN", "law 0 s(1=1)", "deed 0 5 1 5 1 0", "deed 3 1 1 6 0 0", "burdens 0 9 -> 1");
        run(shed + "LANES and LIENS do not", "law 0 s(1=1)", "deed 0 5 1 5 1 0", "deed 0 1 1 6 1 0",
            "burdens 0 9 -> 3");
        run(shed + "any of them", "law 0 s(p=3)", "deed 0 5 1 5 1 0", "deed 0 1 1 6 0 1", "deed 1 2 1 7 0 2",
            "deed 2 3 1 8 0 3", "burdens 0 7 -> 1", "burdens 0 8 -> 0");
        String last = "and that last: their DAY and y is behind that DAY: ";
        run(last + "y 1", "law 0 y1(1=1)", "deed 0 5 1 5 1 0", "burdens 0 5 -> 1", "burdens 0 6 -> 0");
        run(last + "y 2", "law 0 y2(1=1)", "deed 0 5 1 5 1 0", "burdens 0 6 -> 1", "burdens 0 7 -> 0");
        run(last + "(y not 0)", "law 0 y0(1=1)", "deed 0 5 1 5 1 0", "burdens 0 5 -> 1", "burdens 0 999 -> 1");
    }

    private static void promise20() {
        SOLD.bounds("20: STRIPS 0 to 7", "owed # 9", 0, 9, 7, 9, -1);
        SOLD.bounds("20: DAY 0 to 999", "owed 0 #", 0, 0, 999, 9, -1);
        EMPTY.gives("20: no DEEDS yet", "owed 0 0 -> 0", "owed 7 999 -> 0");
        run("20: of LIENS among them, not of LANES", "deed 0 5 1 5 1 100", "deed 0 5 1 5 2 20", "deed 0 5 1 5 2 3",
            "deed 0 5 2 5 2 1000", "burdens 0 5 -> 7", "owed 0 5 -> 23", "owed 0 4 -> 0", "forged 1 true",
            "owed 0 5 -> 3");
    }

    private static void promise21() {
        WILD.bounds("21: STRIPS 0 to 7", "unseen # 9 2", 0, 1, 7, 1, -1);
        WILD.bounds("21: DAY 0 to 999", "unseen 0 # 2", 0, 0, 999, 1, -1);
        WILD.bounds("21: what 0 to 2", "unseen 0 9 #", 0, 0, 2, 1, -1);
        WILD.gives("21: what 1 MISNAMED", "unseen 0 9 1 -> 0");
        EMPTY.gives("21: no DEEDS yet", "unseen 0 999 0 -> 0", "unseen 0 999 1 -> 0", "unseen 0 999 2 -> 0");
        Edges all = new Edges(R, Script.of().times(40, "deed 1 2 1 # 0 0"));
        all.gives("21: as bits: all 40", "unseen 0 39 0 -> 1099511627775", "unseen 0 38 0 -> 549755813887",
            "unseen 0 0 0 -> 1", "unseen 1 39 0 -> 0");
    }

    private static void promise21Days() {
        run("CAN'T BE SEEN: of a DAY not behind the told one, not ENTERED by then", "deed 0 1 1 5 0 0",
            "unseen 0 4 0 -> 0", "unseen 0 5 0 -> 1", "enter 0 8 0 0 0", "unseen 0 7 0 -> 1", "unseen 0 8 0 -> 0");
        run("CAN'T BE SEEN: those that are, and MISNAMED", "deed 0 1 1 5 0 0", "enter 0 8 0 0 0", "name 0 1",
            "unseen 0 7 1 -> 0", "unseen 0 7 0 -> 1", "unseen 0 8 1 -> 1", "unseen 0 8 0 -> 0");
        run("CAN'T BE SEEN: and WILD", "deed 1 2 1 5 0 0", "enter 0 8 0 0 0", "unseen 0 7 2 -> 0", "unseen 0 8 2 -> 1",
            "deed 0 1 1 9 0 0", "enter 1 9 0 0 0", "unseen 0 8 2 -> 1", "unseen 0 9 2 -> 0");
        run("CAN'T BE SEEN: WILD (ENTERED, not MISNAMED)", "deed 1 2 1 5 0 0", "unseen 0 9 2 -> 0", "enter 0 8 0 0 0",
            "name 0 2", "unseen 0 9 2 -> 0", "unseen 0 9 1 -> 1");
        run("CAN'T BE SEEN: of any KIND, VOID or not", "deed 0 1 1 5 1 0", "deed 0 1 1 5 2 0", "deed 0 1 1 5 0 0",
            "forged 2 true", "unseen 0 5 0 -> 7");
    }

    private static void promise22Bounds() {
        SOLD.bounds("22: STRIPS 0 to 7", "search # 9 1", 0, 8, 7, 8, -1);
        SOLD.bounds("22: DAY 0 to 999", "search 0 # 1", 0, 0, 999, 8, -1);
        SOLD.bounds("22: what 0 how many PAGES, 1 which", "search 0 9 #", 0, 1, 1, 8, -1);
        EMPTY.gives("22: nothing must be read", "search 0 0 0 -> 0", "search 0 0 1 -> 0");
        SOLD.gives("22: ENTERED by a DAY", "search 0 7 0 -> 0", "search 0 8 0 -> 1");
    }

    private static void promise22Fewest() {
        Script pages = Offices.EMPTY;
        for (int page = 0; page < 14; page++) {
            pages = pages.and("deed 0 1 1 5 1 0",
                "enter " + page + " " + (5 + page) + " " + page + " " + page + " " + page);
        }
        Edges all = new Edges(R, pages);
        all.gives("22: the first PAGE, then all 14", "search 0 5 1 -> 1", "search 0 18 0 -> 14",
            "search 0 18 1 -> 16383", "search 0 17 1 -> 8191", "search 0 17 0 -> 13");
        run("22: the last PAGE alone", "deed 0 1 1 5 1 0", "enter 0 5 13 13 13", "search 0 5 1 -> 8192");
        run("22: each on one of its PAGES: of like ones the least set", "deed 0 1 1 5 1 0", "enter 0 5 13 4 9",
            "search 0 5 1 -> 16");
        run("22: the fewest PAGES, though not the least set", "deed 0 1 1 5 1 0", "deed 0 1 1 5 1 0",
            "enter 0 5 0 0 13", "enter 1 5 1 1 13", "search 0 5 0 -> 1", "search 0 5 1 -> 8192");
        run("22: of like ones the least set: of two", "deed 0 1 1 5 1 0", "deed 0 1 1 5 1 0", "deed 0 1 1 5 1 0",
            "deed 0 1 1 5 1 0", "enter 0 5 0 1 1", "enter 1 5 0 2 2", "enter 2 5 1 3 3", "enter 3 5 2 3 3",
            "search 0 5 0 -> 2", "search 0 5 1 -> 6");
        Edges many = new Edges(R, Script.of().times(40, "deed 0 1 1 5 1 0").times(40, "enter # 9 7 7 7"));
        many.gives("22: all 40 on one PAGE", "search 0 9 0 -> 1", "search 0 9 1 -> 128");
    }

    private static void promise22Names() {
        String name = "under a NAME of who was ever in THE CHAIN by that DAY: ";
        run(name + "the FIRST OWNER", "deed 0 1 1 5 1 0", "enter 0 5 3 3 3", "search 0 5 1 -> 8", "strip 0 4 0",
            "search 0 5 1 -> 0");
        run(name + "a TAKER in it, from its DAY on", "deed 1 2 1 5 1 0", "enter 0 5 3 3 3", "search 0 9 1 -> 0",
            "deed 0 1 1 8 0 0", "search 0 7 1 -> 0", "search 0 8 1 -> 8", "search 0 7 1 -> 0");
        run(name + "who held it and gave it on", "deed 0 1 1 5 0 0", "deed 1 2 1 6 0 0", "deed 1 3 1 5 1 0",
            "enter 2 5 3 3 3", "search 0 9 1 -> 8");
        run(name + "told in place of its GIVER's", "deed 0 1 1 5 1 0", "enter 0 5 3 3 3", "name 0 7",
            "search 0 5 1 -> 0", "deed 8 1 1 5 1 0", "enter 1 5 4 4 4", "search 0 5 1 -> 0", "name 1 0",
            "search 0 5 1 -> 16");
        run(name + "of the STRIP", "deed 0 1 2 5 1 0", "enter 0 5 3 3 3", "search 0 5 1 -> 0", "search 1 5 1 -> 8");
        run(name + "FORGED ones, too", "deed 0 1 1 5 0 0", "enter 0 5 3 3 3", "forged 0 true", "search 0 5 1 -> 8");
    }

    private static void promise32() {
        SOLD.bounds("32: PEOPLE 0 to 9", "holds # 9", 0, 0, 9, 0, -1);
        SOLD.bounds("32: DAY 0 to 999", "holds 1 #", 0, 0, 999, 255, -1);
        EMPTY.gives("32: as bits: all, none", "holds 0 0 -> 255", "holds 0 999 -> 255", "holds 9 0 -> 0");
        run("32: the first and the last STRIP", "strip 0 9 0", "strip 7 9 0", "holds 9 0 -> 129", "holds 0 0 -> 126");
    }

    private static void promise33() {
        SOLD.bounds("33: STRIPS 0 to 7", "reign # 1 0 9", 0, 5, 7, 5, -1);
        SOLD.bounds("33: PEOPLE 0 to 9", "reign 0 # 0 9", 0, 5, 9, 0, -1);
        SOLD.bounds("33: from DAY 0", "reign 0 0 # 9", 0, 5, 9, 0, -1);
        SOLD.bounds("33: to DAY 999", "reign 0 1 950 #", 950, 1, 999, 50, -1);
    }

    private static void promise33Days() {
        SOLD.bounds("33: 100 DAYS at most, not ahead of it", "reign 0 1 100 #", 100, 1, 199, 100, -1);
        SOLD.bounds("33: 100 DAYS at most, the first", "reign 0 1 # 999", 900, 100, 999, 1, -1);
        SOLD.bounds("33: from the first DAY on", "reign 0 1 0 #", 0, 0, 99, 95, -1);
        SOLD.gives("33: both with it", "reign 0 1 4 5 -> 1", "reign 0 1 5 6 -> 2", "reign 0 0 4 5 -> 1",
            "reign 0 0 3 4 -> 2", "reign 0 1 5 5 -> 1", "reign 0 1 4 4 -> 0");
        SOLD.refuses("33: ahead of it", "reign 0 1 9 8 -> -1", "reign 0 1 999 0 -> -1");
        run("33: by that DAY, each by its own", "law 0 b(t%2=0)", "deed 0 1 1 5 0 0", "deed 0 2 1 5 0 0",
            "reign 0 1 5 9 -> 3", "reign 0 2 5 9 -> 2", "reign 0 0 0 9 -> 5");
    }
}
