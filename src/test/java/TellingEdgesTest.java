/** Each sentence of promises 1 to 11 that names an edge, and of their terms: people, strips, deeds, entries, talk. */
public final class TellingEdgesTest {
    private static final Report R = new Report("TellingEdgesTest");
    private static final Edges SOME = new Edges(R, Offices.SOME);
    private static final Edges EMPTY = new Edges(R, Offices.EMPTY);
    private static final Edges NEARLY_FULL = new Edges(R, Offices.NEARLY_FULL);
    private static final Edges FULL = new Edges(R, Offices.FULL);

    public static void main(String[] args) {
        promise1NothingYet();
        promise1MemoryOfItsOwn();
        promise2People();
        promise2Days();
        promise2DeathDay();
        promise3();
        promise4Parties();
        promise4Strips();
        promise4DayKindPaid();
        promise4Full();
        termsOrder();
        promise5();
        promise6Days();
        promise6Pages();
        promise6Entered();
        promise6FromADayOn();
        promise7();
        promise7Modulo();
        promise7BehindTheLastDay();
        promise8();
        promise9();
        promise10();
        promise10Full();
        promise10OwnDay();
        promise11();
        promise11Full();
        promise11ByThen();
        promise11Order();
        R.close();
    }

    private static void run(String sentence, String... rows) {
        Edges.run(R, sentence, rows);
    }

    private static void promise1NothingYet() {
        run("1: No DEEDS, HEARINGS, WELLS; the tape is empty; THE SEED 1", "count 0 -> 0", "count 1 -> 0",
            "count 2 -> 0", "count 3 -> 0", "count 4 -> 1", "deedIs 0 0 -> -1000");
        run("1: No LAWS", "count 10 -> 0", "count 11 -> 0", "count 12 -> 0", "deed 0 1 1 5 0 9", "deed 0 2 1 6 0 99",
            "enter 1 6 0 0 0", "beats 0 0 1 9 0 -> 0", "beats 0 0 1 9 1 -> 0", "holder 0 9 0 -> 1");
        run("1: No LAWS: a lane is for good", "deed 0 1 1 0 1 9", "burdens 0 999 -> 1");
        run("1: No BUYERS", "widow 0 -> 0", "widow 1 -> 0");
        for (int p = 0; p < 10; p++) {
            run("1: nobody DIED", "count " + (20 + p) + " -> -1");
        }
        for (int s = 0; s < 8; s++) {
            run("1: a FIRST OWNER (PERSON 0 at first), LAW (0 at first)", "holder " + s + " 0 0 -> 0",
                "holder " + s + " 999 0 -> 0", "holder " + s + " 999 1 -> -1", "holder " + s + " 999 2 -> 0",
                "count " + (30 + s) + " -> 0");
        }
        run("1: nothing was KEPT", "undo -> 0");
    }

    /** All memory is the office's own. */
    private static void promise1MemoryOfItsOwn() {
        String before = States.of(Offices.EMPTY::office);
        String after = States.of(() -> {
            WidowDeeds x = new WidowDeeds();
            Offices.FULL.office();
            return x;
        });
        R.due("1: another office changes nothing here", after.equals(before), true);
    }

    private static void promise2People() {
        SOME.bounds("2: PEOPLE 0 to 9", "dies # 50", 0, 1, 9, 1, 0);
        run("2: the first and the last PERSON", "dies 0 7", "dies 9 8", "count 20 -> 7", "count 29 -> 8",
            "count 21 -> -1", "count 28 -> -1");
    }

    private static void promise2Days() {
        SOME.gives("2: DAY (0 to 999; NONE: lives on)", "dies 3 -1 -> 1", "dies 3 0 -> 1", "dies 3 999 -> 1",
            "dies 8 -1 -> 1");
        SOME.beyond("2: no such DAY", "dies 3 #", 0, -2, 1000);
        run("2: on DAY 0", "dies 3 0", "count 23 -> 0");
        run("2: on DAY 999", "dies 3 999", "count 23 -> 999");
        run("2: lives on", "dies 3 5", "dies 3 -1 -> 1", "count 23 -> -1");
        run("2: who lives may live on", "dies 3 -1 -> 1", "count 23 -> -1");
    }

    private static void promise2DeathDay() {
        run("VOID is one whose GIVER DIED on its DAY or ahead of it", "deed 0 1 1 20 0 0", "dies 0 21",
            "deedIs 0 4 -> 0", "holder 0 20 0 -> 1", "dies 0 20", "deedIs 0 4 -> 1", "holder 0 20 0 -> 0", "dies 0 19",
            "deedIs 0 4 -> 1", "dies 0 0", "deedIs 0 4 -> 1", "dies 0 -1", "deedIs 0 4 -> 0");
        run("VOID: not for its TAKER's death", "deed 0 1 1 20 0 0", "dies 1 0", "deedIs 0 4 -> 0",
            "holder 0 20 0 -> 1");
        run("VOID on DAY 0", "deed 0 1 1 0 0 0", "dies 0 0", "deedIs 0 4 -> 1", "dies 0 1", "deedIs 0 4 -> 0");
    }

    private static void promise3() {
        SOME.bounds("3: STRIPS 0 to 7", "strip # 5 1", 0, 1, 7, 1, 0);
        SOME.bounds("3: FIRST OWNER 0 to 9", "strip 3 # 1", 0, 1, 9, 1, 0);
        SOME.bounds("3: LAW 0 to 2", "strip 3 5 #", 0, 1, 2, 1, 0);
        run("3: the first STRIP", "strip 0 9 2", "holder 0 0 0 -> 9", "count 30 -> 2", "holder 1 0 0 -> 0",
            "count 31 -> 0");
        run("3: the last STRIP", "strip 7 9 2", "holder 7 0 0 -> 9", "count 37 -> 2", "holder 6 0 0 -> 0",
            "count 36 -> 0");
        run("3: the first OWNER and LAW again", "strip 7 9 2", "strip 7 0 0 -> 1", "holder 7 0 0 -> 0",
            "count 37 -> 0");
        run("3: a LAW that has no TEXT yet may be told", "strip 4 1 2 -> 1", "count 34 -> 2");
    }

    private static void promise4Parties() {
        SOME.bounds("4: GIVER 0 to 9", "deed # 5 1 5 0 5", 0, 10, 9, 10, -1);
        SOME.bounds("4: TAKER 0 to 9", "deed 5 # 1 5 0 5", 0, 10, 9, 10, -1);
        for (int p = 0; p < 10; p++) {
            SOME.refuses("4: two different PEOPLE", "deed " + p + " " + p + " 1 5 0 5 -> -1");
        }
    }

    private static void promise4Strips() {
        SOME.bounds("4: STRIPS as bits, not empty", "deed 0 1 # 5 0 5", 1, 10, 255, 10, -1);
        SOME.gives("4: the last STRIP alone", "deed 0 1 128 5 0 5 -> 10");
        SOME.beyond("4: a bit beyond the last STRIP, with one within", "deed 0 1 # 5 0 5", -1, 257, 0x40000001, -128);
        run("4: the STRIPS told, no others", "deed 0 1 129 5 0 5", "holder 0 5 0 -> 1", "holder 1 5 0 -> 0",
            "holder 6 5 0 -> 0", "holder 7 5 0 -> 1");
        run("4: all STRIPS", "deed 0 1 255 5 0 5", "holds 1 5 -> 255");
    }

    private static void promise4DayKindPaid() {
        SOME.bounds("4: DAY 0 to 999", "deed 0 1 1 # 0 5", 0, 10, 999, 10, -1);
        SOME.bounds("4: KIND 0 to 2", "deed 0 1 1 5 # 5", 0, 10, 2, 10, -1);
        SOME.bounds("4: PAID 0 to 9999", "deed 0 1 1 5 0 #", 0, 10, 9999, 10, -1);
        run("4: DAY 0", "deed 0 1 1 0 0 0", "deedIs 0 0 -> 0", "holder 0 0 0 -> 1");
        run("4: DAY 999", "deed 0 1 1 999 0 0", "deedIs 0 0 -> 999", "holder 0 998 0 -> 0", "holder 0 999 0 -> 1");
        run("4: KIND 0 all of it, 1 a LANE, 2 a LIEN", "deed 0 1 1 5 0 7", "deed 1 2 1 6 1 7", "deed 1 3 1 6 2 9",
            "holder 0 9 0 -> 1", "burdens 0 9 -> 6", "owed 0 9 -> 9");
        run("4: PAID 0 and 9999", "deed 0 1 1 5 2 0", "owed 0 5 -> 0", "deed 0 1 1 5 2 9999", "owed 0 5 -> 9999");
        run("4: a new DEED is not FORGED, not ENTERED", "deed 0 1 1 5 0 0", "deedIs 0 4 -> 0", "deedIs 0 1 -> -1",
            "deedIs 0 2 -> -1", "deedIs 0 3 -> 0");
    }

    private static void promise4Full() {
        EMPTY.gives("4: DEEDS 0 to 39: the first", "deed 0 1 1 5 0 5 -> 0");
        NEARLY_FULL.gives("4: DEEDS 0 to 39: the last", "deed 0 1 1 5 0 5 -> 39");
        FULL.refuses("4: NONE: 40 are there", "deed 0 1 1 5 0 5 -> -1");
        FULL.gives("4: the last of 40", "deedIs 39 0 -> 40", "deedIs 40 0 -> -1000", "count 0 -> 40");
    }

    private static void termsOrder() {
        run("A DEED stands ahead of another one by DAY, then by number", "law 0 b(1=1)", "deed 0 1 1 6 0 0",
            "deed 0 2 1 5 0 0", "deed 0 3 1 6 0 0", "beats 0 1 0 9 0 -> 1", "beats 0 0 1 9 0 -> -1",
            "beats 0 0 2 9 0 -> 1", "beats 0 2 0 9 0 -> -1", "beats 0 0 0 9 0 -> -1", "beats 0 1 2 9 0 -> 1",
            "beats 0 2 1 9 0 -> -1");
    }

    private static void promise5() {
        SOME.gives("5: the first DEED and the last one", "forged 0 true -> 1", "forged 9 true -> 1",
            "forged 5 false -> 1");
        SOME.beyond("5: no such one", "forged # true", 0, -1, 10, 39, 40);
        SOME.beyond("5: no such one", "forged # false", 0, -1, 10, 39, 40);
        SOME.refuses("5: it is so: FORGED", "forged 5 true -> 0");
        SOME.refuses("5: it is so: not FORGED", "forged 0 false -> 0");
        EMPTY.refuses("5: no DEEDS yet", "forged 0 true -> 0", "forged 0 false -> 0");
        FULL.gives("5: the last of 40", "forged 39 true -> 1");
        FULL.beyond("5: none behind it", "forged # true", 0, 40);
        run("5: forged and back", "deed 0 1 1 5 0 0", "forged 0 true -> 1", "deedIs 0 4 -> 1", "forged 0 true -> 0",
            "deedIs 0 4 -> 1", "forged 0 false -> 1", "deedIs 0 4 -> 0", "forged 0 false -> 0");
        run("5: VOID by one reason, though not by the other", "deed 0 1 1 5 0 0", "dies 0 5", "forged 0 true -> 1",
            "deedIs 0 4 -> 1", "forged 0 false -> 1", "deedIs 0 4 -> 1");
    }

    private static void promise6Days() {
        SOME.bounds("6: not ahead of its own DAY (40), not behind 999", "enter 9 # 0 0 0", 40, 1, 999, 1, 0);
        SOME.beyond("6: no such DAY", "enter 9 # 0 0 0", 0, -1);
        SOME.bounds("6: of DAY 0", "enter 8 # 0 0 0", 0, 1, 999, 1, 0);
        SOME.bounds("6: of DAY 999", "enter 7 # 0 0 0", 999, 1, 999, 1, 0);
    }

    private static void promise6Pages() {
        SOME.bounds("6: the first PAGE 0 to 13", "enter 9 40 # 5 5", 0, 1, 13, 1, 0);
        SOME.bounds("6: the second PAGE 0 to 13", "enter 9 40 5 # 5", 0, 1, 13, 1, 0);
        SOME.bounds("6: the third PAGE 0 to 13", "enter 9 40 5 5 #", 0, 1, 13, 1, 0);
        SOME.beyond("6: no such PAGE", "enter 9 40 5 5 #", 0, 32, 45, 64);
        run("6: three PAGES", "deed 0 1 1 5 0 0", "enter 0 5 0 13 7", "deedIs 0 3 -> 8321");
        run("6: they may be the same: two", "deed 0 1 1 5 0 0", "enter 0 5 13 0 13", "deedIs 0 3 -> 8193");
        run("6: they may be the same: all", "deed 0 1 1 5 0 0", "enter 0 5 13 13 13", "deedIs 0 3 -> 8192");
    }

    private static void promise6Entered() {
        SOME.gives("6: the first DEED and the last one that are not ENTERED", "enter 1 12 0 0 0 -> 1",
            "enter 9 40 0 0 0 -> 1");
        SOME.beyond("6: no such DEED", "enter # 40 0 0 0", 0, -1, 10, 40);
        SOME.refuses("6: it is ENTERED", "enter 0 20 0 1 2 -> 0", "enter 0 30 5 5 5 -> 0", "enter 3 15 6 7 8 -> 0");
        SOME.refuses("6: it is ENTERED, from a later DAY on", "enter 2 20 6 7 8 -> 0");
        EMPTY.refuses("6: no DEEDS yet", "enter 0 0 0 0 0 -> 0");
        run("6: under its GIVER's NAME", "deed 9 1 1 5 0 0", "enter 0 8 1 2 3 -> 1", "deedIs 0 2 -> 9",
            "deedIs 0 1 -> 8");
    }

    private static void promise6FromADayOn() {
        run("ENTERED is a DEED from a DAY on, till its ENTRY is lost", "deed 0 1 1 5 0 0", "enter 0 8 0 0 0",
            "unseen 0 7 0 -> 1", "unseen 0 8 0 -> 0", "unseen 0 999 0 -> 0", "lose 0", "unseen 0 8 0 -> 1",
            "unseen 0 999 0 -> 1");
        run("ENTERED on its own DAY", "deed 0 1 1 5 0 0", "enter 0 5 0 0 0", "unseen 0 4 0 -> 0", "unseen 0 5 0 -> 0",
            "seen 0 0 4 1 -> 0", "seen 0 0 5 1 -> 1");
    }

    private static void promise7() {
        SOME.bounds("7: sent not ahead of its own DAY (40), not behind 999", "mule 9 # 0 0 0", 40, 43, 999, 1002, -1);
        SOME.beyond("7: no such DAY", "mule 9 # 0 0 0", -1, -1);
        SOME.bounds("7: of DAY 0", "mule 8 # 0 0 0", 0, 3, 999, 1002, -1);
        SOME.bounds("7: the first PAGE 0 to 13", "mule 9 40 # 5 5", 0, 43, 13, 43, -1);
        SOME.bounds("7: the second PAGE 0 to 13", "mule 9 40 5 # 5", 0, 43, 13, 43, -1);
        SOME.bounds("7: the third PAGE 0 to 13", "mule 9 40 5 5 #", 0, 43, 13, 43, -1);
        SOME.gives("7: the first DEED and the last one that are not ENTERED", "mule 1 12 0 0 0 -> 15",
            "mule 9 40 0 0 0 -> 43");
        SOME.beyond("7: no such DEED", "mule # 40 0 0 0", -1, -1, 10, 40);
        SOME.refuses("7: it is ENTERED", "mule 0 20 0 0 0 -> -1", "mule 2 20 0 0 0 -> -1", "mule 3 15 0 0 0 -> -1");
        EMPTY.refuses("7: no DEEDS yet", "mule 0 0 0 0 0 -> -1");
        run("7: a refused one does not change X, the next is as if it had not been", "deed 0 1 1 5 0 0",
            "mule 0 4 0 0 0 -> -1", "count 4 -> 1", "mule 0 5 1 2 3 -> 10", "count 4 -> 39022", "deedIs 0 1 -> 10",
            "deedIs 0 2 -> 0", "deedIs 0 3 -> 14");
    }

    /** Seeds behind which X modulo 7 is 0, 1, .. 6; then those behind which X is the lowest and the highest. */
    private static void promise7Modulo() {
        int[] seedFor = {12, 15, 20, 0, 1, 2, 7};
        for (int rest = 0; rest < 7; rest++) {
            int next = (int) ((25173L * seedFor[rest] + 13849) % 65536);
            R.due("7: the test's own seeds", next % 7, rest);
            run("7: 1 and X modulo 7 DAYS behind", "seed " + seedFor[rest], "deed 0 1 1 5 0 0",
                "mule 0 20 0 0 0 -> " + (21 + rest), "count 4 -> " + next);
        }
        run("7: modulo 65536: from the highest X", "seed 65535", "deed 0 1 1 5 0 0", "mule 0 20 0 0 0 -> 25",
            "count 4 -> 54212");
        run("7: modulo 65536: X is 0", "seed 3915", "deed 0 1 1 5 0 0", "deed 0 1 1 5 0 0", "mule 0 20 0 0 0 -> 21",
            "count 4 -> 0", "mule 1 20 0 0 0 -> 24", "count 4 -> 13849");
        run("7: modulo 65536: X is 65535", "seed 33870", "deed 0 1 1 5 0 0", "mule 0 20 0 0 0 -> 22",
            "count 4 -> 65535");
    }

    private static void promise7BehindTheLastDay() {
        run("7: ENTERED behind DAY 999", "deed 0 1 1 5 0 0", "seed 7", "mule 0 999 0 0 0 -> 1006", "deedIs 0 1 -> 1006",
            "unseen 0 999 0 -> 1", "enter 0 999 0 0 0 -> 0", "missing 999 0 -> -2", "lose 0 -> 1", "deedIs 0 1 -> -1");
        run("7: ENTERED on DAY 999", "deed 0 1 1 5 0 0", "seed 7", "mule 0 992 0 0 0 -> 999", "unseen 0 998 0 -> 1",
            "unseen 0 999 0 -> 0");
    }

    private static void promise8() {
        SOME.bounds("8: PEOPLE 0 to 9", "name 3 #", 0, 1, 9, 1, 0);
        SOME.gives("8: the first DEED and the last one that are ENTERED", "name 0 5 -> 1", "name 3 5 -> 1");
        SOME.beyond("8: no such DEED", "name # 5", 0, -1, 10, 40);
        SOME.refuses("8: it is not ENTERED", "name 9 5 -> 0", "name 8 5 -> 0", "name 9 3 -> 0");
        SOME.refuses("8: it is not ENTERED any more", "name 1 5 -> 0");
        SOME.refuses("8: it is so: its GIVER's", "name 0 0 -> 0");
        SOME.refuses("8: it is so: another PERSON's", "name 3 7 -> 0");
        EMPTY.refuses("8: no DEEDS yet", "name 0 5 -> 0");
        run("8: MISNAMED if another PERSON's is told", "deed 3 1 1 5 0 0", "enter 0 5 0 0 0", "unseen 0 9 1 -> 0",
            "name 0 1 -> 1", "deedIs 0 2 -> 1", "unseen 0 9 1 -> 1", "name 0 3 -> 1", "deedIs 0 2 -> 3",
            "unseen 0 9 1 -> 0");
    }

    private static void promise9() {
        SOME.gives("9: the first DEED and the last one that are ENTERED", "lose 0 -> 1", "lose 3 -> 1");
        SOME.beyond("9: no such one", "lose #", 0, -1, 10, 40);
        SOME.refuses("9: it is not ENTERED", "lose 9 -> 0", "lose 4 -> 0");
        SOME.refuses("9: it is lost already", "lose 1 -> 0");
        EMPTY.refuses("9: no DEEDS yet", "lose 0 -> 0");
        run("9: an ENTRY from a later DAY on can be lost, too", "deed 0 1 1 5 0 0", "enter 0 999 0 0 0", "lose 0 -> 1",
            "lose 0 -> 0");
        run("9: what is lost can be ENTERED anew, under its GIVER's NAME", "deed 0 1 1 5 0 0", "enter 0 9 1 2 3",
            "name 0 6", "lose 0", "deedIs 0 2 -> -1", "deedIs 0 3 -> 0", "enter 0 5 4 4 4 -> 1", "deedIs 0 1 -> 5",
            "deedIs 0 2 -> 0", "deedIs 0 3 -> 16");
    }

    private static void promise10() {
        SOME.bounds("10: PEOPLE 0 to 9", "heard # 9 40", 0, 4, 9, 4, -1);
        SOME.bounds("10: DEEDS that are there", "heard 6 # 999", 0, 4, 9, 4, -1);
        SOME.bounds("10: not ahead of its own DAY (40), not behind 999", "heard 6 9 #", 40, 4, 999, 4, -1);
        SOME.beyond("10: no such DAY", "heard 6 9 #", -1, -1);
        SOME.bounds("10: of DAY 0", "heard 6 8 #", 0, 4, 999, 4, -1);
        EMPTY.refuses("10: no DEEDS yet", "heard 0 0 0 -> -1", "heard 0 0 999 -> -1");
    }

    private static void promise10Full() {
        EMPTY.gives("10: how many are told: none", "count 1 -> 0");
        NEARLY_FULL.gives("10: the 60th", "heard 3 0 5 -> 60");
        FULL.refuses("10: 60 are", "heard 3 0 5 -> -1", "heard 0 39 40 -> -1");
        FULL.gives("10: 60", "count 1 -> 60");
    }

    private static void promise10OwnDay() {
        run("KNOWN to its GIVER and TAKER from its own DAY", "deed 0 1 1 5 0 0", "known 0 0 -> 5", "known 1 0 -> 5",
            "known 2 0 -> -2", "heard 0 0 5 -> 1", "known 0 0 -> 5", "heard 1 0 6 -> 2", "known 1 0 -> 5");
        run("KNOWN by HEARING from the told DAY", "deed 0 1 1 5 0 0", "heard 2 0 5", "known 2 0 -> 5", "heard 3 0 999",
            "known 3 0 -> 999", "heard 3 0 998", "known 3 0 -> 998", "heard 3 0 999", "known 3 0 -> 998");
    }

    private static void promise11() {
        SOME.bounds("11: DAY 0 to 999", "well # 3", 0, 3, 999, 3, -1);
        SOME.bounds("11: two PEOPLE at least, as bits, 0 to 9", "well 5 #", 3, 3, 1023, 3, -1);
        SOME.gives("11: any two PEOPLE", "well 5 513 -> 3", "well 5 768 -> 3");
        SOME.beyond("11: nobody", "well 5 #", -1, 0);
        for (int p = 0; p < 10; p++) {
            SOME.refuses("11: one alone", "well 5 " + (1 << p) + " -> -1");
        }
        SOME.beyond("11: a bit beyond the last PERSON", "well 5 #", -1, 1024, 1025, 1027, 2047, -1, -1024);
    }

    private static void promise11Full() {
        EMPTY.gives("11: how many are told: none, then one", "count 2 -> 0", "well 0 3 -> 1");
        NEARLY_FULL.gives("11: the 20th", "well 5 3 -> 20");
        FULL.refuses("11: 20 are", "well 5 3 -> -1", "well 0 1023 -> -1", "well 999 3 -> -1");
        FULL.gives("11: 20", "count 2 -> 20");
    }

    private static void promise11ByThen() {
        run("who sits there knows from that DAY on all that any of them knows by then: ahead of its own DAY",
            "deed 0 1 1 5 0 0", "well 4 5", "known 2 0 -> -2");
        run("..: on its own DAY", "deed 0 1 1 5 0 0", "well 5 5", "known 2 0 -> 5");
        run("..: behind it", "deed 0 1 1 5 0 0", "well 6 5", "known 2 0 -> 6");
        run("..: from whom HEARD on that DAY", "deed 0 1 1 5 0 0", "heard 2 0 8", "well 8 12", "known 3 0 -> 8");
        run("..: not from whom HEARD the DAY behind", "deed 0 1 1 5 0 0", "heard 2 0 8", "well 7 12",
            "known 3 0 -> -2");
        run("..: all DEEDS that one of them knows", "deed 0 1 1 5 0 0", "deed 2 3 1 6 0 0", "well 9 5",
            "known 0 1 -> 9", "known 2 0 -> 9", "known 1 1 -> -2");
        run("..: the lower DAY counts", "deed 0 1 1 5 0 0", "heard 2 0 8", "well 9 5", "known 2 0 -> 8", "well 7 5",
            "known 2 0 -> 7");
        run("..: the last PERSON", "deed 0 1 1 5 0 0", "well 999 513", "known 9 0 -> 999");
        run("..: who does not sit there does not learn", "deed 0 1 1 5 0 0", "well 9 1021", "known 2 0 -> 9",
            "known 9 0 -> 9", "known 1 0 -> 5");
    }

    private static void promise11Order() {
        run("WELLS go by DAYS", "deed 0 1 1 5 0 0", "well 9 12", "well 8 5", "known 3 0 -> 9");
        run("WELLS go .. then as they were told", "deed 0 1 1 5 0 0", "well 9 12", "well 9 5", "known 2 0 -> 9",
            "known 3 0 -> -2", "well 9 12", "known 3 0 -> 9");
        run("a WELL told ahead of a DEED counts for it", "well 9 5", "deed 0 1 1 5 0 0", "known 2 0 -> 9");
    }
}
