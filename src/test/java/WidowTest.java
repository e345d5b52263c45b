/** Promises 29 to 31: buyers, what they hear, and the widow's best sales. */
public final class WidowTest {
    private static final Report R = new Report("WidowTest");
    private static final int NONE = WidowDeeds.NONE;

    public static void main(String[] args) {
        promise29Buyer();
        promise30Hears();
        promise31Widow();
        promise31LikeOnes();
        promise31Chain();
        R.close();
    }

    private static void sells(WidowDeeds x, int much, int whom) {
        R.due("31: how much", x.widow(0), much);
        R.due("31: to whom", x.widow(1), whom);
    }

    private static void promise29Buyer() {
        WidowDeeds x = new WidowDeeds();
        R.due("29: buyer", x.buyer(0, 0, 1, 0), true);
        R.due("29: buyer", x.buyer(7, 999, 9999, 99), true);
        int[][] wrong = {{-1, 0, 1, 0}, {8, 0, 1, 0}, {0, -1, 1, 0}, {0, 1000, 1, 0}, {0, 0, 0, 0}, {0, 0, 10000, 0},
            {0, 0, 1, -1}, {0, 0, 1, 100}};
        for (int[] w : wrong) {
            R.due("29: refused", x.buyer(w[0], w[1], w[2], w[3]), false);
        }
        sells(x, 9999, 128);
        R.due("29: in place of the one before", x.buyer(7, 999, 5, 99), true);
        sells(x, 5, 128);
        x.buyer(0, 999, 4, 1);
        sells(x, 9, 129);
    }

    private static void promise30Hears() {
        WidowDeeds x = new WidowDeeds();
        x.buyer(0, 10, 5, 99);
        x.buyer(1, 20, 6, 99);
        sells(x, 11, 3);
        R.due("30: hears", x.hears(1, 0, 10), true);
        sells(x, 6, 2);
        R.due("30: a day later", x.hears(1, 0, 11), true);
        sells(x, 11, 3);
        R.due("30: at once", x.hears(1, 0, 0), true);
        sells(x, 6, 2);
        R.due("30: never", x.hears(1, 0, 100), true);
        sells(x, 11, 3);
        R.due("30: of a sale behind", x.hears(0, 1, 0), true);
        sells(x, 11, 3);
        int[][] wrong = {{0, 0, 5}, {-1, 0, 5}, {8, 0, 5}, {1, -1, 5}, {1, 8, 5}, {1, 0, -1}, {1, 0, 101}, {7, 7, 100}};
        for (int[] w : wrong) {
            R.due("30: refused", x.hears(w[0], w[1], w[2]), false);
        }
        sells(x, 11, 3);
    }

    private static void promise31Widow() {
        WidowDeeds x = new WidowDeeds();
        sells(x, 0, 0);
        R.due("31: no such what", x.widow(2), NONE);
        R.due("31: no such what", x.widow(-1), NONE);
        x.buyer(3, 10, 5, 10);
        x.buyer(1, 20, 6, 10);
        sells(x, 6, 2);
        x.buyer(3, 10, 5, 11);
        sells(x, 11, 10);
        x.buyer(3, 20, 5, 0);
        x.buyer(1, 20, 6, 1);
        sells(x, 11, 10);
        x.buyer(1, 20, 6, 0);
        sells(x, 6, 2);
        x.buyer(0, 900, 9999, 99);
        x.buyer(2, 900, 9999, 99);
        x.buyer(4, 900, 9999, 99);
        x.buyer(5, 900, 9999, 99);
        x.buyer(6, 900, 9999, 99);
        x.buyer(7, 900, 9999, 99);
        sells(x, 6 * 9999, 0b11110101);
        WidowDeeds y = new WidowDeeds();
        for (int i = 0; i < 8; i++) {
            y.buyer(i, 999, 9999, 1);
        }
        sells(y, 8 * 9999, 255);
    }

    private static void promise31LikeOnes() {
        WidowDeeds x = new WidowDeeds();
        x.buyer(0, 10, 4, 5);
        x.buyer(1, 10, 6, 5);
        x.buyer(2, 30, 10, 5);
        sells(x, 10, 4);
        x.buyer(3, 30, 10, 0);
        x.hears(3, 2, 0);
        sells(x, 10, 4);
        x.buyer(3, 40, 10, 5);
        sells(x, 10, 4);
        x.buyer(2, 30, 9, 5);
        x.buyer(3, 40, 9, 5);
        sells(x, 10, 3);
    }

    /** Only sales count of which one could know, not wishes. */
    private static void promise31Chain() {
        WidowDeeds x = new WidowDeeds();
        x.buyer(0, 10, 100, 50);
        x.buyer(1, 20, 10, 50);
        x.buyer(2, 30, 95, 50);
        x.hears(1, 0, 5);
        x.hears(2, 1, 5);
        sells(x, 195, 5);
        x.hears(2, 0, 20);
        sells(x, 100, 1);
        x.buyer(1, 20, 10, 10);
        x.hears(1, 0, 100);
        sells(x, 110, 3);
    }
}
