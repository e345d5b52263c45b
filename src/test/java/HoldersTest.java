/** Promises 14, 15, 17 to 22, 32 and 33: what is known and seen, the chain, burdens, searches, reigns. */
public final class HoldersTest {
    private static final Report R = new Report("HoldersTest");
    private static final int NONE = WidowDeeds.NONE;

    public static void main(String[] args) {
        promise14Known();
        promise14WellsOfOneDay();
        promise15Seen();
        promise17Holder();
        promise17BestOfMany();
        promise17ComesBack();
        promise18Why();
        promise19Burdens();
        promise19Shed();
        promise20Owed();
        promise21Unseen();
        promise22Search();
        promise22LeastSet();
        promise32Holds();
        promise33Reign();
        R.close();
    }

    private static void promise14Known() {
        WidowDeeds x = new WidowDeeds();
        x.deed(0, 1, 1, 10, 0, 0);
        R.due("14: giver", x.known(0, 0), 10);
        R.due("14: taker", x.known(1, 0), 10);
        R.due("14: never", x.known(2, 0), -2);
        x.well(9, 7);
        R.due("14: a well ahead of it", x.known(2, 0), -2);
        x.well(30, 4 | 8);
        R.due("14: nobody there knows", x.known(3, 0), -2);
        x.well(20, 1 | 4);
        R.due("14: told later, sat earlier", x.known(2, 0), 20);
        R.due("14: and on", x.known(3, 0), 30);
        x.heard(3, 0, 25);
        R.due("14: heard ahead of the well", x.known(3, 0), 25);
        x.well(26, 8 | 16 | 512);
        R.due("14: from who heard", x.known(9, 0), 26);
        x.well(12, 2 | 512);
        R.due("14: the lower day", x.known(9, 0), 12);
        R.due("14: no such person", x.known(10, 0), NONE);
        R.due("14: no such person", x.known(-1, 0), NONE);
        R.due("14: no such deed", x.known(0, 1), NONE);
        R.due("14: no such deed", x.known(0, -1), NONE);
        x.deed(5, 6, 1, 11, 0, 0);
        R.due("14: wells of a later deed", x.known(9, 1), -2);
        x.well(11, 64 | 128);
        R.due("14: on its own day", x.known(7, 1), 11);
    }

    private static void promise14WellsOfOneDay() {
        WidowDeeds x = new WidowDeeds();
        x.deed(0, 1, 1, 10, 0, 0);
        x.well(20, 4 | 8);
        x.well(20, 1 | 4);
        R.due("14: as told", x.known(2, 0), 20);
        R.due("14: as told, too early", x.known(3, 0), -2);
        x.well(20, 4 | 16);
        R.due("14: as told, behind", x.known(4, 0), 20);
    }

    private static void promise15Seen() {
        WidowDeeds x = new WidowDeeds();
        x.strip(0, 1, 0);
        x.strip(1, 2, 0);
        x.deed(1, 2, 1, 10, 0, 0);
        x.deed(2, 3, 3, 20, 1, 0);
        x.enter(1, 22, 0, 0, 0);
        R.due("15: by the first owner", x.seen(0, 0, 5, 0), 0);
        R.due("15: not entered", x.seen(0, 0, 50, 1), 0);
        R.due("15: wild", x.seen(1, 0, 50, 0), 1);
        R.due("15: wild, not found", x.seen(1, 0, 50, 1), 0);
        R.due("15: another strip", x.seen(1, 1, 50, 0), 0);
        R.due("15: found there", x.seen(1, 1, 22, 1), 1);
        R.due("15: not yet", x.seen(1, 1, 21, 1), 0);
        x.enter(0, 30, 0, 0, 0);
        R.due("15: still wild", x.seen(1, 0, 29, 0), 1);
        R.due("15: not wild", x.seen(1, 0, 30, 0), 0);
        R.due("15: found", x.seen(1, 0, 30, 1), 1);
        x.name(1, 9);
        R.due("15: misnamed", x.seen(1, 0, 30, 1), 0);
        R.due("15: misnamed, not wild", x.seen(1, 0, 30, 0), 0);
        x.name(0, 9);
        x.forged(0, true);
        R.due("15: a title counts, misnamed and void", x.seen(1, 0, 30, 0), 0);
        R.due("15: not its strip", x.seen(0, 1, 30, 0), NONE);
        R.due("15: no such strip", x.seen(0, 8, 30, 0), NONE);
        R.due("15: no such strip", x.seen(0, 32, 30, 0), NONE);
        R.due("15: no such deed", x.seen(2, 0, 30, 0), NONE);
        R.due("15: no such day", x.seen(0, 0, 1000, 0), NONE);
        R.due("15: no such what", x.seen(0, 0, 30, 2), NONE);
        R.due("15: no such what", x.seen(0, 0, 30, -1), NONE);
        x.deed(4, 5, 1, 5, 0, 0);
        int lane = x.deed(3, 4, 1, 5, 1, 0);
        x.enter(lane, 5, 0, 0, 0);
        R.due("15: a lane is no title", x.seen(2, 0, 30, 0), 1);
    }

    private static void promise17Holder() {
        WidowDeeds x = new WidowDeeds();
        x.strip(2, 3, 0);
        x.deed(4, 5, 4, 30, 0, 0);
        x.deed(3, 4, 4, 20, 0, 0);
        x.deed(5, 6, 4, 30, 0, 0);
        x.deed(6, 7, 4, 30, 1, 0);
        R.due("17: ahead of all", x.holder(2, 19, 0), 3);
        R.due("17: by none", x.holder(2, 19, 1), NONE);
        R.due("17: no deeds", x.holder(2, 19, 2), 0);
        R.due("17: one", x.holder(2, 20, 0), 4);
        R.due("17: all", x.holder(2, 30, 0), 6);
        R.due("17: by", x.holder(2, 30, 1), 2);
        R.due("17: three", x.holder(2, 30, 2), 3);
        R.due("17: first", x.holder(2, 30, 10), 1);
        R.due("17: second", x.holder(2, 30, 11), 0);
        R.due("17: third", x.holder(2, 30, 12), 2);
        int[] other = {13, 9, 3, -1, -2, Integer.MIN_VALUE, Integer.MAX_VALUE};
        for (int what : other) {
            R.due("17: other what", x.holder(2, 30, what), -2);
        }
        R.due("17: no such strip", x.holder(8, 30, 0), NONE);
        R.due("17: no such strip", x.holder(-1, 30, 0), NONE);
        R.due("17: no such day", x.holder(2, 1000, 0), NONE);
        R.due("17: no such day", x.holder(2, -1, 0), NONE);
        x.deed(6, 8, 4, 30, 0, 0);
        x.forged(4, true);
        R.due("17: void", x.holder(2, 30, 0), 6);
        x.forged(4, false);
        R.due("17: not void", x.holder(2, 30, 0), 8);
        x.dies(6, 30);
        R.due("17: dead on its day", x.holder(2, 30, 0), 6);
    }

    /** The best one so far is what a further one must beat, not the first. */
    private static void promise17BestOfMany() {
        WidowDeeds x = new WidowDeeds();
        Texts.law(x, 0, "b(p>g&p-g<10)");
        x.deed(0, 1, 1, 10, 0, 100);
        x.deed(0, 2, 1, 11, 0, 108);
        x.deed(0, 3, 1, 12, 0, 115);
        x.deed(0, 4, 1, 13, 0, 109);
        x.deed(0, 5, 1, 14, 0, 130);
        R.due("17: the third", x.holder(0, 14, 0), 3);
        R.due("18: beaten by the second", x.why(0, 0, 14), 4);
        R.due("18: beaten by the third", x.why(0, 1, 14), 4);
        R.due("18: too little", x.why(0, 3, 14), 4);
        R.due("18: looked at", x.why(0, 4, 14), 4);
        x.forged(1, true);
        R.due("17: without the second the fourth", x.holder(0, 14, 0), 4);
    }

    private static void promise17ComesBack() {
        WidowDeeds x = new WidowDeeds();
        x.deed(0, 1, 1, 10, 0, 0);
        x.deed(1, 0, 1, 10, 0, 0);
        x.deed(0, 2, 1, 10, 0, 0);
        R.due("17: back and on", x.holder(0, 10, 0), 2);
        R.due("17: three", x.holder(0, 10, 2), 3);
        R.due("18: looked at first, in it later", x.why(0, 2, 10), 0);
        x.deed(2, 3, 1, 9, 0, 0);
        R.due("17: given ahead of the deed by which", x.holder(0, 10, 0), 2);
        R.due("18: did not hold it", x.why(0, 3, 10), 5);
    }

    private static void promise18Why() {
        WidowDeeds x = new WidowDeeds();
        x.strip(0, 1, 0);
        x.deed(1, 2, 1, 10, 0, 0);
        x.deed(1, 3, 1, 11, 0, 0);
        x.deed(4, 5, 1, 12, 0, 0);
        x.deed(1, 3, 1, 12, 1, 0);
        R.due("18: in it", x.why(0, 0, 12), 0);
        R.due("18: beaten", x.why(0, 1, 12), 4);
        R.due("18: did not hold it", x.why(0, 2, 12), 5);
        R.due("18: a later day", x.why(0, 2, 11), 1);
        R.due("18: another kind", x.why(0, 3, 12), NONE);
        R.due("18: no strip of its", x.why(1, 0, 12), NONE);
        R.due("18: no such strip", x.why(8, 0, 12), NONE);
        R.due("18: no such deed", x.why(0, 4, 12), NONE);
        R.due("18: no such day", x.why(0, 0, 1000), NONE);
        x.dies(4, 12);
        R.due("18: dead", x.why(0, 2, 12), 3);
        x.forged(2, true);
        R.due("18: forged ahead of dead", x.why(0, 2, 12), 2);
        R.due("18: later ahead of forged", x.why(0, 2, 11), 1);
        x.dies(1, 11);
        R.due("18: dead ahead of beaten", x.why(0, 1, 12), 3);
    }

    private static void promise19Burdens() {
        WidowDeeds x = new WidowDeeds();
        x.strip(0, 1, 0);
        x.deed(1, 5, 1, 10, 1, 7);
        x.deed(1, 2, 1, 10, 0, 0);
        x.deed(1, 5, 1, 10, 2, 7);
        x.deed(2, 6, 3, 10, 2, 7);
        x.deed(2, 6, 1, 9, 1, 7);
        x.deed(2, 6, 2, 12, 1, 7);
        R.due("19: who held it then", x.burdens(0, 12), 1 | 8);
        R.due("19: not his strip", x.burdens(1, 12), 0);
        R.due("19: ahead", x.burdens(0, 9), 0);
        x.strip(1, 2, 0);
        R.due("19: the other strip", x.burdens(1, 12), 8 | 32);
        R.due("19: its day", x.burdens(1, 11), 8);
        x.forged(3, true);
        R.due("19: void", x.burdens(1, 12), 32);
        x.dies(1, 10);
        R.due("19: dead", x.burdens(0, 12), 0);
        R.due("19: no such strip", x.burdens(8, 12), -1);
        R.due("19: no such strip", x.burdens(-1, 12), -1);
        R.due("19: no such day", x.burdens(0, 1000), -1);
        R.due("19: no such day", x.burdens(0, -1), -1);
        WidowDeeds y = new WidowDeeds();
        for (int d = 0; d < 40; d++) {
            y.deed(0, 1, 1, 10, 1, 7);
        }
        R.due("19: all 40", y.burdens(0, 10), (1L << 40) - 1);
    }

    private static void promise19Shed() {
        WidowDeeds x = new WidowDeeds();
        Texts.law(x, 0, "s(n=0&f=0&p>0)");
        x.deed(0, 5, 1, 10, 1, 7);
        x.deed(0, 1, 1, 20, 0, 3);
        x.deed(1, 2, 1, 30, 0, 0);
        R.due("19: not yet sold", x.burdens(0, 19), 1);
        R.due("19: shed", x.burdens(0, 20), 0);
        R.due("19: stays shed", x.burdens(0, 40), 0);
        x.heard(1, 0, 20);
        R.due("19: he knew", x.burdens(0, 40), 1);
        x.deed(2, 3, 1, 40, 0, 3);
        R.due("19: a later one sheds it", x.burdens(0, 40), 0);
        x.enter(0, 40, 0, 0, 0);
        R.due("19: found", x.burdens(0, 40), 1);
        x.deed(4, 7, 1, 50, 0, 3);
        x.lose(0);
        x.forged(3, true);
        R.due("19: only deeds of the chain shed", x.burdens(0, 60), 1);
        x.deed(3, 8, 1, 12, 1, 0);
        R.due("19: by one who never held it", x.burdens(0, 60), 1);
        x.deed(1, 8, 1, 25, 1, 0);
        R.due("19: deeds ahead of it do not shed", x.burdens(0, 60), 1 | 64);
    }

    private static void promise20Owed() {
        WidowDeeds x = new WidowDeeds();
        Texts.law(x, 0, "y10(k=2)");
        x.deed(0, 5, 1, 10, 1, 7);
        x.deed(0, 5, 1, 10, 2, 9999);
        x.deed(0, 5, 1, 12, 2, 9999);
        x.deed(0, 5, 2, 12, 2, 50);
        R.due("20: both", x.owed(0, 12), 19998);
        R.due("20: one", x.owed(0, 11), 9999);
        R.due("20: one is over", x.owed(0, 20), 9999);
        R.due("20: none", x.owed(0, 22), 0);
        R.due("20: the lane stays", x.burdens(0, 22), 1);
        R.due("20: no such strip", x.owed(8, 12), NONE);
        R.due("20: no such strip", x.owed(-1, 12), NONE);
        R.due("20: no such day", x.owed(0, 1000), NONE);
        R.due("20: no such day", x.owed(0, -1), NONE);
    }

    private static void promise21Unseen() {
        WidowDeeds x = new WidowDeeds();
        x.strip(0, 1, 0);
        x.deed(1, 2, 1, 10, 0, 0);
        x.deed(1, 2, 1, 10, 1, 0);
        x.deed(2, 3, 1, 11, 2, 0);
        x.deed(2, 3, 1, 12, 0, 0);
        x.deed(2, 3, 2, 12, 0, 0);
        x.enter(1, 15, 0, 0, 0);
        x.enter(2, 15, 0, 0, 0);
        x.enter(3, 15, 0, 0, 0);
        x.name(3, 4);
        x.forged(2, true);
        R.due("21: not entered", x.unseen(0, 14, 0), 15);
        R.due("21: not ahead of their day", x.unseen(0, 11, 0), 7);
        R.due("21: by 15", x.unseen(0, 15, 0), 1);
        R.due("21: misnamed by 14", x.unseen(0, 14, 1), 0);
        R.due("21: misnamed by 15", x.unseen(0, 15, 1), 8);
        R.due("21: wild by 14", x.unseen(0, 14, 2), 0);
        R.due("21: wild by 15", x.unseen(0, 15, 2), 4);
        x.enter(0, 16, 0, 0, 0);
        R.due("21: wild by 15", x.unseen(0, 15, 2), 4);
        R.due("21: not by 16", x.unseen(0, 16, 2), 0);
        R.due("21: another strip", x.unseen(1, 15, 0), 16);
        R.due("21: no such what", x.unseen(0, 15, 3), -1);
        R.due("21: no such what", x.unseen(0, 15, -1), -1);
        R.due("21: no such strip", x.unseen(8, 15, 0), -1);
        R.due("21: no such day", x.unseen(0, 1000, 0), -1);
    }

    private static void promise22Search() {
        WidowDeeds x = new WidowDeeds();
        x.strip(0, 1, 0);
        x.deed(1, 2, 1, 10, 0, 0);
        x.deed(2, 3, 1, 20, 0, 0);
        x.deed(3, 4, 1, 20, 2, 0);
        x.deed(5, 6, 1, 20, 2, 0);
        x.deed(1, 6, 2, 5, 2, 0);
        for (int d = 0; d < 5; d++) {
            x.enter(d, 20 + d, d, d + 1, 13);
        }
        R.due("22: none yet", x.search(0, 19, 0), 0);
        R.due("22: the first", x.search(0, 20, 1), 1);
        R.due("22: two", x.search(0, 21, 1), 2);
        R.due("22: three on one page", x.search(0, 22, 0), 1);
        R.due("22: the last page", x.search(0, 22, 1), 1 << 13);
        x.lose(2);
        x.enter(2, 22, 9, 10, 10);
        R.due("22: two pages", x.search(0, 30, 0), 2);
        R.due("22: which", x.search(0, 30, 1), 2 | 1 << 9);
        x.name(3, 2);
        R.due("22: under a name in the chain", x.search(0, 30, 1), 1 << 9 | 1 << 13);
        x.name(2, 8);
        R.due("22: under another name", x.search(0, 30, 1), 1 << 13);
        R.due("22: no such what", x.search(0, 30, 2), NONE);
        R.due("22: no such what", x.search(0, 30, -1), NONE);
        R.due("22: no such strip", x.search(8, 30, 0), NONE);
        R.due("22: no such day", x.search(0, 1000, 0), NONE);
        WidowDeeds y = new WidowDeeds();
        for (int d = 0; d < 14; d++) {
            y.deed(0, 1, 1, 5, 1, 0);
            y.enter(d, 5, d, d, d);
        }
        R.due("22: all pages", y.search(0, 5, 0), 14);
        R.due("22: all pages", y.search(0, 5, 1), (1 << 14) - 1);
    }

    /** Of like ones the least as bits: pages 1 and 2 (6) ahead of pages 0 and 3 (9). */
    private static void promise22LeastSet() {
        WidowDeeds x = new WidowDeeds();
        int[][] pages = {{0, 1, 1}, {0, 2, 2}, {1, 3, 3}, {2, 3, 3}};
        for (int d = 0; d < 4; d++) {
            x.deed(0, 1, 1, 5, 1, 0);
            x.enter(d, 5, pages[d][0], pages[d][1], pages[d][2]);
        }
        R.due("22: two", x.search(0, 5, 0), 2);
        R.due("22: the least", x.search(0, 5, 1), 6);
    }

    private static void promise32Holds() {
        WidowDeeds x = new WidowDeeds();
        x.strip(7, 4, 0);
        x.deed(0, 4, 1 | 2, 10, 0, 0);
        R.due("32: ahead", x.holds(4, 9), 128);
        R.due("32: then", x.holds(4, 10), 131);
        R.due("32: the rest", x.holds(0, 10), 255 - 131);
        R.due("32: nothing", x.holds(9, 10), 0);
        R.due("32: no such person", x.holds(10, 10), NONE);
        R.due("32: no such person", x.holds(-1, 10), NONE);
        R.due("32: no such day", x.holds(0, 1000), NONE);
        R.due("32: no such day", x.holds(0, -1), NONE);
    }

    private static void promise33Reign() {
        WidowDeeds x = new WidowDeeds();
        x.deed(0, 1, 1, 10, 0, 0);
        x.deed(1, 0, 1, 15, 0, 0);
        R.due("33: his days", x.reign(0, 1, 0, 99), 5);
        R.due("33: both with it", x.reign(0, 1, 10, 14), 5);
        R.due("33: both with it", x.reign(0, 1, 14, 15), 1);
        R.due("33: one day", x.reign(0, 1, 10, 10), 1);
        R.due("33: the other's", x.reign(0, 0, 0, 99), 95);
        R.due("33: 100 days", x.reign(0, 0, 900, 999), 100);
        R.due("33: 101 days", x.reign(0, 0, 899, 999), NONE);
        R.due("33: ahead of it", x.reign(0, 0, 5, 4), NONE);
        R.due("33: no such day", x.reign(0, 0, 950, 1000), NONE);
        R.due("33: no such day", x.reign(0, 0, -1, 5), NONE);
        R.due("33: no such day", x.reign(0, 0, Integer.MIN_VALUE, 5), NONE);
        R.due("33: no such strip", x.reign(8, 0, 0, 5), NONE);
        R.due("33: no such person", x.reign(0, 10, 0, 5), NONE);
    }
}
