/** Promises 1 to 11 and 34 to 39: what is told to the office, kept and undone, and read back. */
public final class DeedsTest {
    private static final Report R = new Report("DeedsTest");
    private static final int NONE = WidowDeeds.NONE;

    public static void main(String[] args) {
        promise1NewObject();
        promise2Dies();
        promise3Strip();
        promise4Deed();
        promise5Forged();
        promise6Enter();
        promise7Mule();
        promise8Name();
        promise9Lose();
        promise10Heard();
        promise11Well();
        promise34Seed();
        promise35And36KeepAndUndo();
        promise36UndoneTalk();
        promise37Check();
        promise38DeedIs();
        promise39Count();
        R.close();
    }

    private static void promise1NewObject() {
        WidowDeeds x = new WidowDeeds();
        for (int what = 0; what < 4; what++) {
            R.due("1: count " + what, x.count(what), 0);
        }
        R.due("1: X", x.count(4), 1);
        for (int i = 0; i < 3; i++) {
            R.due("1: clauses", x.count(10 + i), 0);
        }
        for (int p = 0; p < 10; p++) {
            R.due("1: lives on", x.count(20 + p), NONE);
        }
        for (int s = 0; s < 8; s++) {
            R.due("1: law", x.count(30 + s), 0);
            R.due("1: first owner", x.holder(s, 999, 0), 0);
        }
        R.due("1: no buyers", x.widow(1), 0);
        R.due("1: nothing kept", x.undo(), false);
        R.due("NONE", WidowDeeds.NONE, -1);
    }

    private static void promise2Dies() {
        WidowDeeds x = new WidowDeeds();
        x.deed(0, 1, 1, 20, 0, 0);
        R.due("2: a day behind", x.dies(0, 21), true);
        R.due("2: gave while alive", x.holder(0, 20, 0), 1);
        R.due("2: its day", x.dies(0, 20), true);
        R.due("2: died on its day", x.holder(0, 20, 0), 0);
        R.due("2: lives on", x.dies(0, NONE), true);
        R.due("2: told", x.count(20), NONE);
        R.due("2: gave again", x.holder(0, 20, 0), 1);
        R.due("2: day 0", x.dies(9, 0), true);
        R.due("2: day 0 told", x.count(29), 0);
        R.due("2: day 999", x.dies(9, 999), true);
        R.due("2: in place of the one before", x.count(29), 999);
        R.due("2: no such day", x.dies(9, 1000), false);
        R.due("2: no such day", x.dies(9, -2), false);
        R.due("2: no such person", x.dies(-1, 5), false);
        R.due("2: no such person", x.dies(10, 5), false);
        R.due("2: refused, unchanged", x.count(29), 999);
    }

    private static void promise3Strip() {
        WidowDeeds x = new WidowDeeds();
        R.due("3: strip", x.strip(7, 9, 2), true);
        R.due("3: owner", x.holder(7, 0, 0), 9);
        R.due("3: law", x.count(37), 2);
        R.due("3: others stay", x.holder(6, 0, 0), 0);
        R.due("3: refused strip", x.strip(8, 1, 1), false);
        R.due("3: refused strip", x.strip(-1, 1, 1), false);
        R.due("3: refused owner", x.strip(7, 10, 1), false);
        R.due("3: refused owner", x.strip(7, -1, 1), false);
        R.due("3: refused law", x.strip(7, 1, 3), false);
        R.due("3: refused law", x.strip(7, 1, -1), false);
        R.due("3: unchanged", x.holder(7, 0, 0) * 10 + x.count(37), 92);
    }

    private static void promise4Deed() {
        WidowDeeds x = new WidowDeeds();
        R.due("4: first", x.deed(0, 9, 255, 999, 2, 9999), 0);
        R.due("4: second", x.deed(9, 0, 128, 0, 0, 0), 1);
        int[][] wrong = {{-1, 1, 1, 0, 0, 0}, {10, 1, 1, 0, 0, 0}, {0, -1, 1, 0, 0, 0}, {0, 10, 1, 0, 0, 0},
            {3, 3, 1, 0, 0, 0}, {0, 1, 0, 0, 0, 0}, {0, 1, 256, 0, 0, 0}, {0, 1, -1, 0, 0, 0}, {0, 1, 1, -1, 0, 0},
            {0, 1, 1, 1000, 0, 0}, {0, 1, 1, 0, -1, 0}, {0, 1, 1, 0, 3, 0}, {0, 1, 1, 0, 0, -1},
            {0, 1, 1, 0, 0, 10000}, {0, 1, Integer.MIN_VALUE, 0, 0, 0}};
        for (int[] w : wrong) {
            R.due("4: refused", x.deed(w[0], w[1], w[2], w[3], w[4], w[5]), NONE);
        }
        R.due("4: unchanged", x.count(0), 2);
        for (int d = 2; d < 40; d++) {
            R.due("4: next", x.deed(0, 1, 1, 40 - d, 0, 0), d);
        }
        R.due("4: 40 are there", x.deed(0, 1, 1, 0, 0, 0), NONE);
        R.due("4: 40", x.count(0), 40);
    }

    private static void promise5Forged() {
        WidowDeeds x = new WidowDeeds();
        x.deed(0, 1, 1, 5, 0, 0);
        R.due("5: it is so", x.forged(0, false), false);
        R.due("5: forged", x.forged(0, true), true);
        R.due("5: void", x.deedIs(0, 4), 1);
        R.due("5: it is so", x.forged(0, true), false);
        R.due("5: not any more", x.forged(0, false), true);
        R.due("5: not void", x.deedIs(0, 4), 0);
        R.due("5: no such one", x.forged(1, true), false);
        R.due("5: no such one", x.forged(-1, true), false);
    }

    private static void promise6Enter() {
        WidowDeeds x = new WidowDeeds();
        x.deed(0, 1, 1, 5, 0, 0);
        R.due("6: ahead of its own", x.enter(0, 4, 0, 0, 0), false);
        R.due("6: no such day", x.enter(0, 1000, 0, 0, 0), false);
        R.due("6: no such page", x.enter(0, 5, 14, 0, 0), false);
        R.due("6: no such page", x.enter(0, 5, 0, -1, 0), false);
        R.due("6: no such page", x.enter(0, 5, 0, 0, 14), false);
        R.due("6: no such deed", x.enter(1, 5, 0, 0, 0), false);
        R.due("6: not entered", x.deedIs(0, 1), NONE);
        R.due("6: its own day", x.enter(0, 5, 0, 13, 7), true);
        R.due("6: from day 5", x.deedIs(0, 1), 5);
        R.due("6: under its giver", x.deedIs(0, 2), 0);
        R.due("6: pages", x.deedIs(0, 3), 1 | 1 << 13 | 1 << 7);
        R.due("6: it is entered", x.enter(0, 6, 1, 1, 1), false);
        R.due("6: unchanged", x.deedIs(0, 3), 1 | 1 << 13 | 1 << 7);
    }

    private static void promise7Mule() {
        WidowDeeds x = new WidowDeeds();
        for (int d = 0; d < 4; d++) {
            x.deed(0, 1, 1, 999 * (d & 1), 0, 0);
        }
        R.due("7: refused", x.mule(1, 998, 0, 0, 0), NONE);
        R.due("7: refused", x.mule(0, 1000, 0, 0, 0), NONE);
        R.due("7: refused", x.mule(4, 0, 0, 0, 0), NONE);
        R.due("7: refused", x.mule(0, 0, 0, 0, 14), NONE);
        R.due("7: refused, X stays", x.count(4), 1);
        int seed = 1;
        for (int d = 0; d < 4; d++) {
            seed = (int) ((25173L * seed + 13849) % 65536);
            int sent = 999 * (d & 1);
            R.due("7: day", x.mule(d, sent, 1, 2, 2), sent + 1 + seed % 7);
            R.due("7: X", x.count(4), seed);
            R.due("7: entered", x.deedIs(d, 1), sent + 1 + seed % 7);
            R.due("7: pages", x.deedIs(d, 3), 6);
        }
        R.due("7: it is entered", x.mule(0, 5, 1, 2, 2), NONE);
        R.due("7: X stays", x.count(4), seed);
        R.due("7: not by 999", x.unseen(0, 999, 0), 10);
    }

    private static void promise8Name() {
        WidowDeeds x = new WidowDeeds();
        x.deed(3, 1, 1, 5, 0, 0);
        R.due("8: not entered", x.name(0, 2), false);
        x.enter(0, 5, 0, 0, 0);
        R.due("8: it is so", x.name(0, 3), false);
        R.due("8: another", x.name(0, 2), true);
        R.due("8: told", x.deedIs(0, 2), 2);
        R.due("8: it is so", x.name(0, 2), false);
        R.due("8: misnamed", x.unseen(0, 5, 1), 1);
        R.due("8: right again", x.name(0, 3), true);
        R.due("8: not misnamed", x.unseen(0, 5, 1), 0);
        R.due("8: no such person", x.name(0, 10), false);
        R.due("8: no such person", x.name(0, -1), false);
        R.due("8: no such deed", x.name(1, 2), false);
    }

    private static void promise9Lose() {
        WidowDeeds x = new WidowDeeds();
        x.deed(3, 1, 1, 5, 0, 0);
        R.due("9: not entered", x.lose(0), false);
        x.enter(0, 900, 3, 4, 5);
        x.name(0, 7);
        R.due("9: lost", x.lose(0), true);
        R.due("9: day", x.deedIs(0, 1), NONE);
        R.due("9: name", x.deedIs(0, 2), NONE);
        R.due("9: pages", x.deedIs(0, 3), 0);
        R.due("9: again", x.lose(0), false);
        R.due("9: entered anew", x.enter(0, 6, 1, 1, 1), true);
        R.due("9: under its giver", x.deedIs(0, 2), 3);
        R.due("9: new pages alone", x.deedIs(0, 3), 2);
        R.due("9: no such one", x.lose(1), false);
        R.due("9: no such one", x.lose(-1), false);
    }

    private static void promise10Heard() {
        WidowDeeds x = new WidowDeeds();
        x.deed(0, 1, 1, 50, 0, 0);
        R.due("10: ahead of its own", x.heard(2, 0, 49), NONE);
        R.due("10: its own day", x.heard(2, 0, 50), 1);
        R.due("10: known", x.known(2, 0), 50);
        R.due("10: later too", x.heard(2, 0, 60), 2);
        R.due("10: the first counts", x.known(2, 0), 50);
        R.due("10: later", x.heard(3, 0, 70), 3);
        R.due("10: then ahead", x.heard(3, 0, 60), 4);
        R.due("10: the first counts", x.known(3, 0), 60);
        x.deed(0, 1, 1, 50, 0, 0);
        R.due("10: of the other deed nothing", x.known(3, 1), -2);
        R.due("10: the giver too", x.heard(0, 0, 60), 5);
        R.due("10: from its own", x.known(0, 0), 50);
        R.due("10: no such person", x.heard(10, 0, 60), NONE);
        R.due("10: no such deed", x.heard(1, 2, 60), NONE);
        R.due("10: no such day", x.heard(1, 0, 1000), NONE);
        for (int i = 6; i <= 60; i++) {
            R.due("10: told", x.heard(4, 1, 999), i);
        }
        R.due("10: 60 are", x.heard(4, 1, 60), NONE);
        R.due("10: unchanged", x.known(4, 1), 999);
        R.due("10: of the other deed nothing", x.known(4, 0), -2);
        R.due("10: count", x.count(1), 60);
    }

    private static void promise11Well() {
        WidowDeeds x = new WidowDeeds();
        R.due("11: one alone", x.well(5, 8), NONE);
        R.due("11: nobody", x.well(5, 0), NONE);
        R.due("11: no such people", x.well(5, 1024 + 3), NONE);
        R.due("11: no such people", x.well(5, -1), NONE);
        R.due("11: no such day", x.well(-1, 3), NONE);
        R.due("11: no such day", x.well(1000, 3), NONE);
        for (int i = 1; i <= 20; i++) {
            R.due("11: told", x.well(999, 1023), i);
        }
        R.due("11: 20 are", x.well(5, 3), NONE);
        R.due("11: count", x.count(2), 20);
    }

    private static void promise34Seed() {
        WidowDeeds x = new WidowDeeds();
        R.due("34: seed", x.seed(65535), true);
        R.due("34: X", x.count(4), 65535);
        R.due("34: no such number", x.seed(65536), false);
        R.due("34: no such number", x.seed(-1), false);
        R.due("34: unchanged", x.count(4), 65535);
        x.deed(0, 1, 1, 0, 0, 0);
        R.due("34: by it", x.mule(0, 0, 0, 0, 0), 1 + (int) ((25173L * 65535 + 13849) % 65536) % 7);
        R.due("34: zero", x.seed(0), true);
        R.due("34: zero told", x.count(4), 0);
    }

    private static void promise35And36KeepAndUndo() {
        WidowDeeds x = new WidowDeeds();
        x.deed(0, 1, 1, 10, 0, 5);
        x.deed(1, 2, 1, 20, 0, 5);
        x.enter(0, 11, 1, 2, 3);
        x.name(0, 6);
        R.due("35: keep", x.keep(), 2);
        x.deed(2, 3, 1, 15, 0, 5);
        x.forged(1, true);
        x.lose(0);
        x.mule(1, 22, 0, 0, 0);
        x.dies(5, 3);
        x.strip(1, 4, 2);
        x.buyer(0, 1, 7, 1);
        Texts.law(x, 1, "b(c=1)");
        Texts.feed(x, "12345");
        R.due("36: undo", x.undo(), true);
        R.due("36: deeds", x.count(0), 2);
        R.due("36: entry", x.deedIs(0, 1), 11);
        R.due("36: name", x.deedIs(0, 2), 6);
        R.due("36: pages", x.deedIs(0, 3), 14);
        R.due("36: not entered", x.deedIs(1, 1), NONE);
        R.due("36: not forged", x.deedIs(1, 4), 0);
        R.due("36: X", x.count(4), 1);
        R.due("36: holder", x.holder(0, 30, 0), 2);
        R.due("36: deaths stay", x.count(25), 3);
        R.due("36: strips stay", x.count(31), 2);
        R.due("36: owners stay", x.holder(1, 0, 0), 4);
        R.due("36: buyers stay", x.widow(0), 7);
        R.due("36: laws stay", x.count(11), 1);
        R.due("36: the tape stays", x.count(3), 20);
        x.deed(5, 3, 1, 1, 0, 5);
        R.due("36: again, as kept last", x.undo(), true);
        R.due("36: deeds", x.count(0), 2);
        x.deed(5, 3, 1, 25, 0, 5);
        x.seed(500);
        R.due("35: kept anew", x.keep(), 3);
        x.seed(600);
        R.due("36: as kept last", x.undo(), true);
        R.due("36: deeds", x.count(0), 3);
        R.due("36: X", x.count(4), 500);
        int forged = x.deed(2, 5, 1, 30, 0, 5);
        x.forged(forged, true);
        x.mule(forged, 30, 1, 2, 3);
        x.undo();
        R.due("25: of a deed that is undone nothing is left", x.trial(0, 2, 5, 30, 0, NONE, 30, 1), 0);
        R.due("4: a new one is not forged", x.deedIs(x.deed(2, 6, 2, 30, 0, 5), 4), 0);
        R.due("4: nor entered", x.deedIs(3, 1), NONE);
        R.due("4: nor of the same strips", x.why(0, 3, 40), NONE);
    }

    private static void promise36UndoneTalk() {
        WidowDeeds x = new WidowDeeds();
        x.deed(0, 1, 1, 10, 0, 5);
        x.well(30, 6);
        x.keep();
        x.heard(4, 0, 12);
        x.well(20, 6);
        x.well(14, 2 | 32);
        R.due("36: known", x.known(5, 0), 14);
        R.due("36: undo", x.undo(), true);
        R.due("36: hearings", x.count(1), 0);
        R.due("36: wells", x.count(2), 1);
        R.due("36: unknown again", x.known(4, 0), -2);
        R.due("36: unknown again", x.known(5, 0), -2);
        R.due("36: by the first well", x.known(2, 0), 30);
        x.heard(3, 0, 11);
        R.due("36: told again", x.count(1), 1);
        x.undo();
        x.deed(2, 3, 1, 2, 0, 5);
        x.undo();
        x.deed(7, 8, 1, 2, 0, 5);
        R.due("36: of a deed that is undone nothing is left", x.known(3, 1), -2);
    }

    private static void promise37Check() {
        WidowDeeds x = new WidowDeeds();
        x.strip(0, 4, 0);
        x.strip(7, 3, 0);
        x.deed(4, 5, 1, 10, 0, 0);
        fill(x, 5, 0, 0, 0, 0, 0, 0, 3);
        R.due("37: not so many", x.check(10, 11), -2);
        R.due("37: no such day", x.check(1000, 8), -2);
        R.due("37: no such day", x.check(-1, 8), -2);
        R.due("37: no such number", x.check(10, -1), -2);
        R.due("37: far too many", x.check(10, 1 << 30), -2);
        R.due("37: the tape stays", x.count(3), 40);
        R.due("37: right", x.check(10, 8), NONE);
        R.due("37: empty then", x.count(3), 0);
        fill(x, 5, 0, 0, 0, 0, 0, 0, 3);
        R.due("37: the day before", x.check(9, 8), 0);
        fill(x, 5, 0, 0, 0, 0, 0, 0, 4);
        R.due("37: the last", x.check(10, 8), 7);
        fill(x, 5, 0, 0, 1 << 24, 0, 0, 0, 3);
        R.due("37: all four bytes count", x.check(10, 8), 3);
        for (int shift = 0; shift < 32; shift += 8) {
            fill(x, 5, 0, 1 << shift, 0, 0, 0, 0, 3);
            R.due("37: all four bytes count", x.check(10, 8), 2);
        }
        fill(x, 5, 0, 0, 0, 0, 0, 0, 4);
        R.due("37: some are lacking", x.check(10, 7), 7);
        fill(x, 5, 0, 0, 0, 0, 0, 0, 3);
        R.due("37: none told", x.check(10, 0), 0);
        R.due("37: empty then", x.count(3), 0);
        fill(x, 5, 0, 0, 0, 0, 0, 0, 3);
        R.due("37: a ninth is not so", x.check(10, 9), 8);
    }

    private static void fill(WidowDeeds x, int... n) {
        x.feed(n[0], n[1], n[2], n[3], n[4]);
        x.feed(n[5], n[6], n[7], 0, 0);
    }

    private static void promise38DeedIs() {
        WidowDeeds x = new WidowDeeds();
        x.deed(3, 1, 1, 5, 1, 0);
        x.enter(0, 8, 2, 2, 13);
        x.name(0, 4);
        x.dies(3, 5);
        int[] want = {5, 8, 4, 4 | 1 << 13, 1};
        for (int what = 0; what < 5; what++) {
            R.due("38: what " + what, x.deedIs(0, what), want[what]);
        }
        R.due("38: no such what", x.deedIs(0, 5), -1000);
        R.due("38: no such what", x.deedIs(0, -1), -1000);
        R.due("38: no such deed", x.deedIs(1, 0), -1000);
        R.due("38: no such deed", x.deedIs(-1, 0), -1000);
        x.dies(3, 6);
        R.due("38: alive on its day", x.deedIs(0, 4), 0);
        x.forged(0, true);
        R.due("38: forged", x.deedIs(0, 4), 1);
    }

    private static void promise39Count() {
        WidowDeeds x = new WidowDeeds();
        x.deed(3, 1, 1, 5, 1, 0);
        x.heard(2, 0, 5);
        x.heard(2, 0, 5);
        x.well(5, 3);
        x.well(5, 3);
        x.well(5, 3);
        Texts.law(x, 0, "b(c=1)");
        Texts.law(x, 2, "b(c=1);s(c=1);y5(c=1)");
        x.feed(0, 0, 0, 0, 0);
        x.seed(77);
        x.dies(0, 6);
        x.dies(9, 8);
        x.strip(0, 0, 2);
        x.strip(7, 0, 1);
        int[][] want = {{0, 1}, {1, 2}, {2, 3}, {3, 20}, {4, 77}, {5, NONE}, {9, NONE}, {10, 1}, {11, 0}, {12, 3},
            {13, NONE}, {19, NONE}, {20, 6}, {21, NONE}, {29, 8}, {30, 2}, {31, 0}, {37, 1}, {38, NONE}, {-1, NONE},
            {Integer.MIN_VALUE, NONE}, {Integer.MAX_VALUE, NONE}};
        for (int[] w : want) {
            R.due("39: count " + w[0], x.count(w[0]), w[1]);
        }
    }
}
