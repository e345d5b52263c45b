import java.util.ArrayList;
import java.util.List;
import java.util.Random;

/** Runs of drawn calls on the class and on the oracle; each answer must be the same. The draws are always the same. */
public final class OracleTest {
    private static final int RUNS = Integer.getInteger("runs", 5000);
    private static final String[] LIKELY = {"b(c=1)", "b(n=0&c=1)", "b(n=0&f=0)", "b(c=1&n=0);s(n=0&f=0);y5(k=1)", "b(p>g)",
        "b(1=1)", "b(x<5|u=0)", "s(v=1&u=0);y10+h(1=1)", "b(c=1|w=1);y3*k(u=0);y20(u=1)", "b(i=1);b(q=1);b(w=1)",
        "b(p/g>1|c=1)", "b(!(n=1|f=1)&v=1)", "b(c=1&!n=1);y[t-30]%9(1=1);s(x>4)", "b(f=0&p>0)"};

    private final Report report;
    private final int run;
    private final Random random;
    private final WidowDeeds real = new WidowDeeds();
    private final Oracle oracle = new Oracle();
    private final List<String> calls = new ArrayList<>();
    private final int people;
    private final int days;
    private final int firstDay;
    private final int strips;
    private final int mostDeeds;
    private final List<Integer> takers = new ArrayList<>();
    /** Many deeds by few, some not entered, under a law by which entries matter. */
    private final boolean isRace;
    private int deeds = 0;
    private boolean isWrong = false;

    private OracleTest(Report report, int run) {
        this.report = report;
        this.run = run;
        random = new Random(run * 7919L + 17);
        people = 3 + random.nextInt(4);
        days = 4 + random.nextInt(30);
        firstDay = random.nextInt(6) == 0 ? 1000 - days : random.nextInt(40);
        isRace = random.nextInt(3) == 0;
        strips = isRace ? 1 : 1 + random.nextInt(3);
        mostDeeds = random.nextInt(40) == 0 ? 41 : 4 + random.nextInt(9);
    }

    public static void main(String[] args) {
        Report report = new Report("OracleTest");
        for (int run = 0; run < RUNS; run++) {
            new OracleTest(report, run).go();
        }
        report.close();
    }

    /** First some land that is worth asking about, then all kinds of calls. */
    private void go() {
        for (int s = 0; s < strips; s++) {
            drawStrip(s);
        }
        if (isRace) {
            for (int i = 0; i < 3; i++) {
                setLaw(i, LIKELY[random.nextInt(LIKELY.length)]);
            }
        }
        for (int i = 0; i < mostDeeds && !isWrong; i++) {
            drawDeed();
            if (random.nextInt(isRace ? 4 : 2) == 0) {
                drawEntry();
            }
        }
        int length = 60 + random.nextInt(160);
        for (int i = 0; i < length && !isWrong; i++) {
            draw();
        }
    }

    private void same(String call, long got, long want) {
        calls.add(call + " -> " + want);
        report.due("run " + run + ", call " + calls.size() + ": " + call, got, want);
        if (got != want) {
            isWrong = true;
            System.out.println(String.join("\n", calls));
        }
    }

    private void same(String call, boolean got, boolean want) {
        same(call, got ? 1 : 0, want ? 1 : 0);
    }

    private boolean rarely() {
        return random.nextInt(40) == 0;
    }

    private int wrongOr(int value, int... wrong) {
        return rarely() ? wrong[random.nextInt(wrong.length)] : value;
    }

    private int person() {
        return wrongOr(random.nextInt(people), -1, 10, 9, Integer.MIN_VALUE, Integer.MAX_VALUE);
    }

    private int strip() {
        return wrongOr(random.nextInt(strips), -1, 8, 7, Integer.MIN_VALUE, Integer.MAX_VALUE);
    }

    private int day() {
        return wrongOr(firstDay + random.nextInt(days), -1, 1000, 999, 0, -2, Integer.MIN_VALUE, Integer.MAX_VALUE);
    }

    /** Someone who has, or had, something to give. */
    private int giver() {
        if (deeds == 0 || random.nextInt(isRace ? 2 : 3) == 0) {
            return oracle.holder(random.nextInt(strips), 0, 0);
        }
        return random.nextInt(6) == 0 ? person() : takers.get(random.nextInt(takers.size()));
    }

    /** Mostly one by which much has been. */
    private int lateDay() {
        return random.nextInt(3) == 0 ? day() : Math.min(999, firstDay + days - 1 + random.nextInt(8));
    }

    private int dayBehind(int d) {
        int own = oracle.deedIs(d, 0);
        return own < 0 || random.nextInt(4) == 0 ? day() : Math.min(999, own + random.nextInt(days));
    }

    private int deedNumber() {
        return wrongOr(random.nextInt(Math.max(1, deeds)), -1, deeds, 40, 39, Integer.MIN_VALUE, Integer.MAX_VALUE);
    }

    private int page() {
        return wrongOr(random.nextInt(14), -1, 14, 31, 32, Integer.MAX_VALUE);
    }

    private int what(int most) {
        return wrongOr(random.nextInt(most), -1, most, -2, 10, Integer.MIN_VALUE, Integer.MAX_VALUE);
    }

    private void draw() {
        int way = random.nextInt(100);
        if (isRace && random.nextBoolean()) {
            askDearly(90 + way % 10);
        } else if (way < 45) {
            change(isRace ? random.nextInt(45) * 7 % 30 : way);
        } else if (way < 90) {
            ask(way);
        } else {
            askDearly(way);
        }
    }

    private void change(int way) {
        if (way < 12) {
            drawDeed();
        } else if (way < 20) {
            drawEntry();
        } else if (way < 22) {
            int d = deedNumber();
            boolean is = random.nextInt(3) == 0;
            same("forged " + d + " " + is, real.forged(d, is), oracle.forged(d, is));
        } else if (way < 24) {
            int d = deedNumber();
            int p = person();
            same("name " + d + " " + p, real.name(d, p), oracle.name(d, p));
        } else if (way < 25) {
            int d = deedNumber();
            same("lose " + d, real.lose(d), oracle.lose(d));
        } else if (way < 29) {
            int p = person();
            int d = deedNumber();
            int t = dayBehind(d);
            same("heard " + p + " " + d + " " + t, real.heard(p, d, t), oracle.heard(p, d, t));
        } else if (way < 31) {
            int t = day();
            int set = random.nextInt(20) == 0 ? random.nextInt(2100) - 20 : random.nextInt(1 << people);
            same("well " + t + " " + set, real.well(t, set), oracle.well(t, set));
        } else if (way < 36) {
            drawLaw();
        } else if (way < 38) {
            drawStrip(strip());
        } else if (way < 39) {
            int p = person();
            int t = random.nextBoolean() ? -1 : day();
            same("dies " + p + " " + t, real.dies(p, t), oracle.dies(p, t));
        } else if (way < 43) {
            drawBuyer();
        } else {
            drawKeeping();
        }
    }

    private void drawStrip(int s) {
        int p = person();
        int l = wrongOr(random.nextInt(3), -1, 3);
        same("strip " + s + " " + p + " " + l, real.strip(s, p, l), oracle.strip(s, p, l));
    }

    private void drawDeed() {
        int giver = giver();
        int taker = person();
        int set = random.nextInt(20) == 0 ? random.nextInt(300) - 10 : 1 + random.nextInt((1 << strips) - 1);
        int t = day();
        int kind = random.nextInt(3) > 0 ? 0 : wrongOr(1 + random.nextInt(2), -1, 3);
        int paid = wrongOr(random.nextInt(30), -1, 9999, 10000);
        if (deeds >= mostDeeds) {
            return;
        }
        int want = oracle.deed(giver, taker, set, t, kind, paid);
        same("deed " + giver + " " + taker + " " + set + " " + t + " " + kind + " " + paid,
                real.deed(giver, taker, set, t, kind, paid), want);
        deeds = oracle.count(0);
        if (want >= 0) {
            takers.add(taker);
        }
    }

    private void drawEntry() {
        int d = deedNumber();
        int t = dayBehind(d);
        int a = page();
        int b = random.nextBoolean() ? a : page();
        int c = page();
        String call = d + " " + t + " " + a + " " + b + " " + c;
        if (random.nextInt(4) == 0) {
            same("mule " + call, real.mule(d, t, a, b, c), oracle.mule(d, t, a, b, c));
        } else {
            same("enter " + call, real.enter(d, t, a, b, c), oracle.enter(d, t, a, b, c));
        }
    }

    private void drawLaw() {
        LawMaker maker = new LawMaker(random);
        int kind = random.nextInt(6);
        String text = kind < 2 ? maker.spoilt() : kind < 4 ? maker.sound() : LIKELY[random.nextInt(LIKELY.length)];
        setLaw(wrongOr(random.nextInt(3), -1, 3), text);
    }

    private void setLaw(int i, String text) {
        feedText(text);
        int n = wrongOr(text.length(), 0, -1, 161, 160, 200, Integer.MAX_VALUE);
        same("law " + i + " " + n + " of " + text, real.law(i, n), oracle.law(i, n));
    }

    private void feedText(String text) {
        int[] words = new int[5];
        for (int from = 0; from < text.length(); from += 20) {
            for (int w = 0; w < 5; w++) {
                words[w] = 0;
                for (int k = 0; k < 4; k++) {
                    int at = from + 4 * w + k;
                    words[w] = words[w] << 8 | (at < text.length() ? text.charAt(at) : 'a');
                }
            }
            feed(words);
        }
    }

    private void feed(int[] w) {
        same("feed", real.feed(w[0], w[1], w[2], w[3], w[4]), oracle.feed(w[0], w[1], w[2], w[3], w[4]));
    }

    private void drawBuyer() {
        int i = wrongOr(random.nextInt(8), -1, 8);
        int j = wrongOr(random.nextInt(8), -1, 8);
        if (random.nextBoolean()) {
            int t = day();
            int price = wrongOr(1 + random.nextInt(20), 0, -1, 9999, 10000);
            int enters = wrongOr(random.nextInt(20), -1, 99, 100);
            same("buyer " + i + " " + t + " " + price + " " + enters, real.buyer(i, t, price, enters),
                    oracle.buyer(i, t, price, enters));
        } else {
            int n = wrongOr(random.nextInt(20), -1, 99, 100, 101);
            same("hears " + i + " " + j + " " + n, real.hears(i, j, n), oracle.hears(i, j, n));
        }
    }

    private void drawKeeping() {
        int way = random.nextInt(6);
        if (way == 0) {
            same("undo", real.undo(), oracle.undo());
            deeds = oracle.count(0);
        } else if (way < 3) {
            same("keep", real.keep(), oracle.keep());
        } else if (way == 3) {
            int x = wrongOr(random.nextInt(65536), -1, 65536, 65535, 0);
            same("seed " + x, real.seed(x), oracle.seed(x));
        } else {
            drawCheck();
        }
    }

    private void drawCheck() {
        int t = day();
        int spoilt = random.nextInt(16);
        int[] numbers = new int[15];
        for (int s = 0; s < 15; s++) {
            numbers[s] = s < 8 ? oracle.holder(s, t, 0) : 0;
            numbers[s] += s == spoilt ? 1 << random.nextInt(32) : 0;
        }
        for (int part = 0; part < 3; part++) {
            feed(java.util.Arrays.copyOfRange(numbers, 5 * part, 5 * part + 5));
        }
        int n = random.nextInt(3) > 0 ? 8 : wrongOr(random.nextInt(16), -1, 50, 51, 1 << 30, Integer.MAX_VALUE);
        same("check " + t + " " + n, real.check(t, n), oracle.check(t, n));
    }

    private void ask(int way) {
        int s = strip();
        int t = lateDay();
        int d = deedNumber();
        int e = deedNumber();
        int p = person();
        int what = what(2);
        if (way < 50) {
            same("known " + p + " " + d, real.known(p, d), oracle.known(p, d));
        } else if (way < 54) {
            same("seen " + d + " " + s + " " + t + " " + what, real.seen(d, s, t, what), oracle.seen(d, s, t, what));
        } else if (way < 60) {
            same("beats " + s + " " + d + " " + e + " " + t + " " + what, real.beats(s, d, e, t, what),
                    oracle.beats(s, d, e, t, what));
        } else if (way < 68) {
            int w = random.nextInt(16) - 1;
            same("holder " + s + " " + t + " " + w, real.holder(s, t, w), oracle.holder(s, t, w));
        } else if (way < 74) {
            same("why " + s + " " + d + " " + t, real.why(s, d, t), oracle.why(s, d, t));
        } else if (way < 78) {
            same("burdens " + s + " " + t, real.burdens(s, t), oracle.burdens(s, t));
            same("owed " + s + " " + t, real.owed(s, t), oracle.owed(s, t));
        } else if (way < 81) {
            int w = what(3);
            same("unseen " + s + " " + t + " " + w, real.unseen(s, t, w), oracle.unseen(s, t, w));
        } else if (way < 83) {
            same("widow " + what, real.widow(what), oracle.widow(what));
        } else if (way < 85) {
            same("holds " + p + " " + t, real.holds(p, t), oracle.holds(p, t));
        } else if (way < 87) {
            int w = wrongOr(random.nextInt(5), -1, 5);
            same("deedIs " + d + " " + w, real.deedIs(d, w), oracle.deedIs(d, w));
        } else {
            int w = random.nextInt(42) - 2;
            same("count " + w, real.count(w), oracle.count(w));
        }
    }

    private void askDearly(int way) {
        int s = strip();
        int t = day();
        int by = lateDay();
        int p = giver();
        int q = person();
        int paid = wrongOr(random.nextInt(30), -1, 10000);
        int what = what(2);
        boolean isLarge = deeds > 14;
        if (way == 90 && !isLarge) {
            same("worst " + by + " " + what, real.worst(by, what), oracle.worst(by, what));
        } else if (way == 91 && !isLarge) {
            same("missing " + by + " " + what, real.missing(by, what), oracle.missing(by, what));
        } else if (way < 94) {
            int entered = random.nextInt(4) == 0 ? -1 : day();
            same("trial " + s + " " + p + " " + q + " " + t + " " + paid + " " + entered + " " + by + " " + what,
                    real.trial(s, p, q, t, paid, entered, by, what), oracle.trial(s, p, q, t, paid, entered, by, what));
        } else if (way < 96) {
            same("till " + s + " " + p + " " + q + " " + t + " " + paid + " " + by, real.till(s, p, q, t, paid, by),
                    oracle.till(s, p, q, t, paid, by));
        } else if (way == 96 && !isLarge) {
            int w = random.nextInt(6) - 2;
            same("fewest " + s + " " + p + " " + by + " " + w, real.fewest(s, p, by, w), oracle.fewest(s, p, by, w));
        } else if (way == 97) {
            drawOdds(s, p, t, by, what);
        } else if (way == 98) {
            int to = rarely() ? t + 99 + random.nextInt(2) : by;
            same("reign " + s + " " + p + " " + t + " " + to, real.reign(s, p, t, to), oracle.reign(s, p, t, to));
        } else if (way == 99 && random.nextInt(4) == 0) {
            same("search " + s + " " + by + " " + what, real.search(s, by, what), oracle.search(s, by, what));
        }
    }

    private void drawOdds(int s, int p, int sent, int by, int what) {
        long set = rarely() ? random.nextLong() : 0;
        int wanted = 1 + random.nextInt(3);
        for (int d = 0; d < deeds && wanted > 0; d++) {
            boolean isFree = oracle.deedIs(d, 1) == -1 && oracle.deedIs(d, 0) <= sent;
            if (isFree && random.nextBoolean() || rarely()) {
                set |= 1L << d;
                wanted--;
            }
        }
        same("odds " + s + " " + p + " " + set + " " + sent + " " + by + " " + what,
                real.odds(s, p, set, sent, by, what), oracle.odds(s, p, set, sent, by, what));
    }
}
