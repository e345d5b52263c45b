import java.util.ArrayList;
import java.util.Comparator;
import java.util.HashSet;
import java.util.List;
import java.util.Set;
import java.util.TreeSet;

/** The document once more, as plainly and slowly as it can be said; to be compared with the class. */
final class Oracle {
    static final int NONE = -1;

    private static final class Deed {
        int number, giver, taker, strips, day, kind, paid, entry = NONE, name = NONE;
        boolean forged;
        Set<Integer> pages = new HashSet<>();

        Deed copy() {
            Deed c = new Deed();
            c.number = number;
            c.giver = giver;
            c.taker = taker;
            c.strips = strips;
            c.day = day;
            c.kind = kind;
            c.paid = paid;
            c.entry = entry;
            c.name = name;
            c.forged = forged;
            c.pages = new HashSet<>(pages);
            return c;
        }

        boolean of(int s) {
            return (strips & 1 << s) != 0;
        }

        boolean enteredBy(int t) {
            return entry != NONE && entry <= t;
        }

        boolean misnamed() {
            return entry != NONE && name != giver;
        }
    }

    private final int[] death = new int[10];
    private final int[] owner = new int[8];
    private final int[] lawOf = new int[8];
    private final OracleLaw[] laws = {OracleLaw.none(), OracleLaw.none(), OracleLaw.none()};
    private List<Deed> deeds = new ArrayList<>();
    private List<int[]> hearings = new ArrayList<>();
    private List<int[]> wells = new ArrayList<>();
    private int x = 1;
    private List<Deed> keptDeeds;
    private List<int[]> keptHearings;
    private List<int[]> keptWells;
    private int keptX;
    private final List<Integer> tape = new ArrayList<>();
    private final int[][] buyers = new int[8][];
    private final int[][] hear = new int[8][8];

    Oracle() {
        for (int p = 0; p < 10; p++) {
            death[p] = NONE;
        }
        for (int[] row : hear) {
            java.util.Arrays.fill(row, 100);
        }
    }

    private static boolean in(int v, int low, int high) {
        return low <= v && v <= high;
    }

    private static boolean person(int p) {
        return in(p, 0, 9);
    }

    private static boolean day(int d) {
        return in(d, 0, 999);
    }

    private static boolean stripNo(int s) {
        return in(s, 0, 7);
    }

    private boolean deedNo(int d) {
        return in(d, 0, deeds.size() - 1);
    }

    boolean dies(int p, int t) {
        if (!person(p) || t != NONE && !day(t)) {
            return false;
        }
        death[p] = t;
        return true;
    }

    boolean strip(int s, int o, int l) {
        if (!stripNo(s) || !person(o) || !in(l, 0, 2)) {
            return false;
        }
        owner[s] = o;
        lawOf[s] = l;
        return true;
    }

    int deed(int giver, int taker, int strips, int t, int kind, int paid) {
        if (!person(giver) || !person(taker) || giver == taker || !in(strips, 1, 255) || !day(t) || !in(kind, 0, 2)
                || !in(paid, 0, 9999) || deeds.size() == 40) {
            return NONE;
        }
        deeds.add(make(deeds.size(), giver, taker, strips, t, kind, paid));
        return deeds.size() - 1;
    }

    private static Deed make(int number, int giver, int taker, int strips, int t, int kind, int paid) {
        Deed d = new Deed();
        d.number = number;
        d.giver = giver;
        d.taker = taker;
        d.strips = strips;
        d.day = t;
        d.kind = kind;
        d.paid = paid;
        return d;
    }

    boolean forged(int d, boolean is) {
        if (!deedNo(d) || deeds.get(d).forged == is) {
            return false;
        }
        deeds.get(d).forged = is;
        return true;
    }

    private boolean enterable(int d, int t, int a, int b, int c) {
        return deedNo(d) && day(t) && in(a, 0, 13) && in(b, 0, 13) && in(c, 0, 13) && t >= deeds.get(d).day
                && deeds.get(d).entry == NONE;
    }

    private static void put(Deed d, int t, int... pages) {
        d.entry = t;
        d.name = d.giver;
        for (int p : pages) {
            d.pages.add(p);
        }
    }

    boolean enter(int d, int t, int a, int b, int c) {
        if (!enterable(d, t, a, b, c)) {
            return false;
        }
        put(deeds.get(d), t, a, b, c);
        return true;
    }

    int mule(int d, int t, int a, int b, int c) {
        if (!enterable(d, t, a, b, c)) {
            return NONE;
        }
        x = (int) ((25173L * x + 13849L) % 65536L);
        put(deeds.get(d), t + 1 + x % 7, a, b, c);
        return deeds.get(d).entry;
    }

    boolean name(int d, int p) {
        if (!deedNo(d) || !person(p) || deeds.get(d).entry == NONE || deeds.get(d).name == p) {
            return false;
        }
        deeds.get(d).name = p;
        return true;
    }

    boolean lose(int d) {
        if (!deedNo(d) || deeds.get(d).entry == NONE) {
            return false;
        }
        strike(deeds.get(d));
        return true;
    }

    private static void strike(Deed d) {
        d.entry = NONE;
        d.name = NONE;
        d.pages.clear();
    }

    int heard(int p, int d, int t) {
        if (!person(p) || !deedNo(d) || !day(t) || t < deeds.get(d).day || hearings.size() == 60) {
            return NONE;
        }
        hearings.add(new int[] {p, d, t});
        return hearings.size();
    }

    int well(int t, int people) {
        if (!day(t) || !in(people, 0, 1023) || Integer.bitCount(people) < 2 || wells.size() == 20) {
            return NONE;
        }
        wells.add(new int[] {t, people});
        return wells.size();
    }

    int feed(int a, int b, int c, int d, int e) {
        if (tape.size() + 20 > 200) {
            return NONE;
        }
        for (int w : new int[] {a, b, c, d, e}) {
            for (int k = 3; k >= 0; k--) {
                tape.add(w >> 8 * k & 0xff);
            }
        }
        return tape.size();
    }

    int law(int i, int n) {
        if (!in(i, 0, 2) || !in(n, 1, 160) || tape.size() < n) {
            return NONE;
        }
        StringBuilder text = new StringBuilder();
        for (int k = 0; k < n; k++) {
            text.append((char) (int) tape.get(k));
        }
        tape.clear();
        int fault = OracleLaw.faultOf(text.toString().replace('\n', ' '));
        if (fault != 0) {
            return fault;
        }
        laws[i] = new OracleLaw(text.toString());
        return laws[i].size();
    }

    /** Day by day, so that it is told in what order people learn. */
    private int knownSince(int p, Deed d) {
        boolean[] knows = new boolean[10];
        TreeSet<Integer> days = new TreeSet<>(List.of(d.day));
        hearings.forEach(h -> days.add(h[2]));
        wells.forEach(w -> days.add(w[0]));
        for (int t : days) {
            if (d.day == t) {
                knows[d.giver] = true;
                knows[d.taker] = true;
            }
            for (int[] h : hearings) {
                if (h[1] == d.number && h[2] == t) {
                    knows[h[0]] = true;
                }
            }
            for (int[] w : wells) {
                if (w[0] == t) {
                    boolean any = false;
                    for (int q = 0; q < 10; q++) {
                        any |= (w[1] & 1 << q) != 0 && knows[q];
                    }
                    for (int q = 0; q < 10; q++) {
                        knows[q] |= any && (w[1] & 1 << q) != 0;
                    }
                }
            }
            if (knows[p]) {
                return t;
            }
        }
        return -2;
    }

    int known(int p, int d) {
        return !person(p) || !deedNo(d) ? NONE : knownSince(p, deeds.get(d));
    }

    private boolean dead(int p, int t) {
        return death[p] != NONE && t >= death[p];
    }

    private boolean isVoid(Deed d) {
        return d.forged || dead(d.giver, d.day);
    }

    private boolean wild(Deed d, int s, int t) {
        if (d.giver == owner[s]) {
            return false;
        }
        return deeds.stream().noneMatch(o -> o.kind == 0 && o.of(s) && o.taker == d.giver && o.enteredBy(t));
    }

    private boolean found(Deed d, int s, int t) {
        return d.enteredBy(t) && !d.misnamed() && !wild(d, s, t);
    }

    int seen(int d, int s, int t, int what) {
        if (!deedNo(d) || !stripNo(s) || !deeds.get(d).of(s) || !day(t) || !in(what, 0, 1)) {
            return NONE;
        }
        return (what == 0 ? wild(deeds.get(d), s, t) : found(deeds.get(d), s, t)) ? 1 : 0;
    }

    private static boolean ahead(Deed d, Deed e) {
        return d.day != e.day ? d.day < e.day : d.number < e.number;
    }

    private static int bit(boolean b) {
        return b ? 1 : 0;
    }

    /** With e null: the facts of y. */
    private int[] facts(Deed d, Deed e, int s, int t) {
        int[] f = new int[128];
        if (e != null) {
            int since = knownSince(e.taker, d);
            f['n'] = bit(since >= 0 && since <= e.day);
            f['f'] = bit(found(d, s, e.day));
            f['c'] = bit(e.enteredBy(t) && (!d.enteredBy(t) || e.entry < d.entry));
            f['v'] = bit(e.enteredBy(t));
            f['p'] = e.paid;
            f['x'] = e.day - d.day;
            f['w'] = bit(wild(d, s, e.day));
        }
        f['u'] = bit(d.enteredBy(t));
        f['g'] = d.paid;
        f['k'] = d.kind;
        f['i'] = bit(d.misnamed());
        f['q'] = bit(dead(d.taker, t));
        f['h'] = s;
        f['t'] = t;
        return f;
    }

    private boolean lawSays(char letter, Deed d, Deed e, int s, int t) {
        return laws[lawOf[s]].any(letter, facts(d, e, s, t));
    }

    int beats(int s, int d, int e, int t, int what) {
        if (!stripNo(s) || !deedNo(d) || !deedNo(e) || !day(t) || !in(what, 0, 1)) {
            return NONE;
        }
        Deed a = deeds.get(d);
        Deed b = deeds.get(e);
        if (!a.of(s) || !b.of(s) || !ahead(a, b)) {
            return NONE;
        }
        return bit(lawSays(what == 0 ? 'b' : 's', a, b, s, t));
    }

    private final class Walk {
        final List<Deed> chain = new ArrayList<>();
        final Set<Deed> looked = new HashSet<>();
        int holder;

        Walk(int s, int t) {
            holder = owner[s];
            List<Deed> sorted = new ArrayList<>(deeds);
            sorted.sort(Comparator.<Deed>comparingInt(d -> d.day).thenComparingInt(d -> d.number));
            Deed by = null;
            while (true) {
                Deed best = null;
                for (Deed e : sorted) {
                    if (e.kind == 0 && e.of(s) && !isVoid(e) && e.day <= t && e.giver == holder
                            && (by == null || ahead(by, e))) {
                        looked.add(e);
                        if (best == null || lawSays('b', best, e, s, t)) {
                            best = e;
                        }
                    }
                }
                if (best == null) {
                    return;
                }
                chain.add(best);
                by = best;
                holder = best.taker;
            }
        }
    }

    private int who(int s, int t) {
        return new Walk(s, t).holder;
    }

    int holder(int s, int t, int what) {
        if (!stripNo(s) || !day(t)) {
            return NONE;
        }
        Walk w = new Walk(s, t);
        if (what == 0) {
            return w.holder;
        }
        if (what == 1) {
            return w.chain.isEmpty() ? NONE : w.chain.get(w.chain.size() - 1).number;
        }
        if (what == 2) {
            return w.chain.size();
        }
        return what >= 10 && what < 10 + w.chain.size() ? w.chain.get(what - 10).number : -2;
    }

    private int whyOf(int s, Deed d, int t) {
        Walk w = new Walk(s, t);
        if (w.chain.contains(d)) {
            return 0;
        }
        if (d.day > t) {
            return 1;
        }
        if (d.forged) {
            return 2;
        }
        if (dead(d.giver, d.day)) {
            return 3;
        }
        return w.looked.contains(d) ? 4 : 5;
    }

    int why(int s, int d, int t) {
        if (!stripNo(s) || !deedNo(d) || !day(t) || !deeds.get(d).of(s) || deeds.get(d).kind != 0) {
            return NONE;
        }
        return whyOf(s, deeds.get(d), t);
    }

    private List<Deed> burdenList(int s, int t) {
        Walk w = new Walk(s, t);
        List<Deed> list = new ArrayList<>();
        for (Deed d : deeds) {
            if (d.kind == 0 || !d.of(s) || isVoid(d) || d.day > t) {
                continue;
            }
            int now = owner[s];
            boolean shed = false;
            for (Deed c : w.chain) {
                if (ahead(c, d)) {
                    now = c.taker;
                }
                shed |= ahead(d, c) && lawSays('s', d, c, s, t);
            }
            int y = laws[lawOf[s]].days(facts(d, null, s, t));
            if (now == d.giver && !shed && (y == 0 || d.day + y > t)) {
                list.add(d);
            }
        }
        return list;
    }

    long burdens(int s, int t) {
        if (!stripNo(s) || !day(t)) {
            return -1;
        }
        return burdenList(s, t).stream().mapToLong(d -> 1L << d.number).sum();
    }

    int owed(int s, int t) {
        if (!stripNo(s) || !day(t)) {
            return NONE;
        }
        return burdenList(s, t).stream().filter(d -> d.kind == 2).mapToInt(d -> d.paid).sum();
    }

    long unseen(int s, int t, int what) {
        if (!stripNo(s) || !day(t) || !in(what, 0, 2)) {
            return -1;
        }
        long set = 0;
        for (Deed d : deeds) {
            boolean is = what == 0 ? !d.enteredBy(t) : d.enteredBy(t) && (what == 1 ? d.misnamed() : !d.misnamed() && wild(d, s, t));
            if (d.of(s) && d.day <= t && is) {
                set |= 1L << d.number;
            }
        }
        return set;
    }

    int search(int s, int t, int what) {
        if (!stripNo(s) || !day(t) || !in(what, 0, 1)) {
            return NONE;
        }
        Set<Integer> names = new HashSet<>();
        names.add(owner[s]);
        new Walk(s, t).chain.forEach(d -> names.add(d.taker));
        int best = -1;
        for (int set = 0; set < 1 << 14; set++) {
            int pages = set;
            boolean all = deeds.stream().filter(d -> d.of(s) && d.enteredBy(t) && names.contains(d.name))
                    .allMatch(d -> d.pages.stream().anyMatch(p -> (pages & 1 << p) != 0));
            if (all && (best < 0 || Integer.bitCount(set) < Integer.bitCount(best))) {
                best = set;
            }
        }
        return what == 0 ? Integer.bitCount(best) : best;
    }

    private List<Integer> holders(int t) {
        List<Integer> list = new ArrayList<>();
        for (int s = 0; s < 8; s++) {
            list.add(who(s, t));
        }
        return list;
    }

    private static int differences(List<Integer> a, List<Integer> b) {
        int n = 0;
        for (int i = 0; i < a.size(); i++) {
            n += a.get(i).equals(b.get(i)) ? 0 : 1;
        }
        return n;
    }

    int worst(int t, int what) {
        if (!day(t) || !in(what, 0, 1)) {
            return NONE;
        }
        List<Integer> before = holders(t);
        int best = -2;
        int most = -2;
        for (Deed d : deeds) {
            d.forged = !d.forged;
            int n = differences(before, holders(t));
            d.forged = !d.forged;
            if (n > most) {
                most = n;
                best = d.number;
            }
        }
        return what == 0 ? best : most;
    }

    int missing(int t, int what) {
        if (!day(t) || !in(what, 0, 1)) {
            return NONE;
        }
        List<Integer> before = holders(t);
        int best = -2;
        int most = -2;
        for (int i = 0; i < deeds.size(); i++) {
            Deed d = deeds.get(i);
            if (d.enteredBy(t)) {
                Deed copy = d.copy();
                strike(copy);
                deeds.set(i, copy);
                int n = differences(before, holders(t));
                deeds.set(i, d);
                if (n > most) {
                    most = n;
                    best = i;
                }
            }
        }
        return what == 0 ? best : most;
    }

    private boolean giveable(int s, int giver, int taker, int t, int paid) {
        return stripNo(s) && person(giver) && person(taker) && giver != taker && day(t) && in(paid, 0, 9999)
                && deeds.size() < 40;
    }

    int trial(int s, int giver, int taker, int t, int paid, int entered, int by, int what) {
        if (!giveable(s, giver, taker, t, paid) || !day(by) || !in(what, 0, 1)
                || entered != NONE && (!day(entered) || entered < t)) {
            return NONE;
        }
        return tryOne(s, make(deeds.size(), giver, taker, 1 << s, t, 0, paid), entered, by, what);
    }

    private int tryOne(int s, Deed d, int entered, int by, int what) {
        List<Deed> before = deeds;
        deeds = new ArrayList<>(before);
        deeds.add(d);
        if (entered != NONE) {
            put(d, entered, 0);
        }
        int answer = what == 0 ? who(s, by) : whyOf(s, d, by);
        deeds = before;
        return answer;
    }

    int till(int s, int giver, int taker, int t, int paid, int by) {
        if (!giveable(s, giver, taker, t, paid) || !day(by) || by < t) {
            return NONE;
        }
        int last = -2;
        for (int e = t; e <= by; e++) {
            if (tryOne(s, make(deeds.size(), giver, taker, 1 << s, t, 0, paid), e, by, 0) == taker) {
                last = e;
            }
        }
        return last;
    }

    private boolean holdsIf(int s, int p, int t, int... forged) {
        List<Deed> before = deeds;
        deeds = new ArrayList<>();
        before.forEach(d -> deeds.add(d.copy()));
        for (int d : forged) {
            deeds.get(d).forged = true;
        }
        boolean is = who(s, t) == p;
        deeds = before;
        return is;
    }

    private int[] fewestRow(int s, int p, int t) {
        int n = deeds.size();
        if (holdsIf(s, p, t)) {
            return new int[0];
        }
        for (int a = 0; a < n; a++) {
            if (holdsIf(s, p, t, a)) {
                return new int[] {a};
            }
        }
        for (int a = 0; a < n; a++) {
            for (int b = a + 1; b < n; b++) {
                if (holdsIf(s, p, t, a, b)) {
                    return new int[] {a, b};
                }
            }
        }
        for (int a = 0; a < n; a++) {
            for (int b = a + 1; b < n; b++) {
                for (int c = b + 1; c < n; c++) {
                    if (holdsIf(s, p, t, a, b, c)) {
                        return new int[] {a, b, c};
                    }
                }
            }
        }
        return null;
    }

    int fewest(int s, int p, int t, int what) {
        if (!stripNo(s) || !person(p) || !day(t)) {
            return NONE;
        }
        int[] row = fewestRow(s, p, t);
        if (row == null) {
            return -2;
        }
        if (what == NONE) {
            return row.length;
        }
        return what >= 0 && what < row.length ? row[what] : -2;
    }

    int odds(int s, int p, long set, int sent, int by, int what) {
        if (!stripNo(s) || !person(p) || !day(sent) || !day(by) || !in(what, 0, 1)) {
            return NONE;
        }
        List<Deed> list = new ArrayList<>();
        for (int i = 0; i < 64; i++) {
            if ((set & 1L << i) != 0) {
                if (!deedNo(i) || deeds.get(i).entry != NONE || deeds.get(i).day > sent) {
                    return NONE;
                }
                list.add(deeds.get(i));
            }
        }
        if (!in(list.size(), 1, 4)) {
            return NONE;
        }
        int above = ways(list, 0, s, p, sent, by);
        int below = (int) Math.pow(7, list.size());
        list.forEach(Oracle::strike);
        int divisor = 1;
        for (int k = 2; k <= below; k++) {
            if (above % k == 0 && below % k == 0) {
                divisor = k;
            }
        }
        return (what == 0 ? above : below) / divisor;
    }

    private int ways(List<Deed> list, int i, int s, int p, int sent, int by) {
        if (i == list.size()) {
            return bit(who(s, by) == p);
        }
        int sum = 0;
        for (int late = 1; late <= 7; late++) {
            put(list.get(i), sent + late, 0);
            sum += ways(list, i + 1, s, p, sent, by);
        }
        return sum;
    }

    boolean buyer(int i, int t, int price, int enters) {
        if (!in(i, 0, 7) || !day(t) || !in(price, 1, 9999) || !in(enters, 0, 99)) {
            return false;
        }
        buyers[i] = new int[] {t, price, enters};
        return true;
    }

    boolean hears(int i, int j, int days) {
        if (!in(i, 0, 7) || !in(j, 0, 7) || i == j || !in(days, 0, 100)) {
            return false;
        }
        hear[i][j] = days;
        return true;
    }

    /** NONE if one of them would not buy. */
    private int takings(int set) {
        int sum = 0;
        for (int i = 0; i < 8; i++) {
            if ((set & 1 << i) == 0) {
                continue;
            }
            if (buyers[i] == null) {
                return NONE;
            }
            for (int j = 0; j < 8; j++) {
                if (j == i || (set & 1 << j) == 0 || buyers[j] == null) {
                    continue;
                }
                boolean first = buyers[j][0] < buyers[i][0] || buyers[j][0] == buyers[i][0] && j < i;
                boolean sees = buyers[j][0] + buyers[j][2] <= buyers[i][0];
                boolean knows = hear[i][j] != 100 && buyers[j][0] + hear[i][j] <= buyers[i][0];
                if (first && (sees || knows)) {
                    return NONE;
                }
            }
            sum += buyers[i][1];
        }
        return sum;
    }

    int widow(int what) {
        if (!in(what, 0, 1)) {
            return NONE;
        }
        List<Integer> sets = new ArrayList<>();
        for (int set = 0; set < 256; set++) {
            if (takings(set) >= 0) {
                sets.add(set);
            }
        }
        int best = sets.stream().min(Comparator.<Integer>comparingInt(b -> -takings(b))
                .thenComparingInt(Integer::bitCount).thenComparingInt(b -> b)).get();
        return what == 0 ? takings(best) : best;
    }

    int holds(int p, int t) {
        if (!person(p) || !day(t)) {
            return NONE;
        }
        int set = 0;
        for (int s = 0; s < 8; s++) {
            set |= who(s, t) == p ? 1 << s : 0;
        }
        return set;
    }

    int reign(int s, int p, int from, int to) {
        if (!stripNo(s) || !person(p) || !day(from) || !day(to) || from > to || to - from + 1 > 100) {
            return NONE;
        }
        int n = 0;
        for (int t = from; t <= to; t++) {
            n += bit(who(s, t) == p);
        }
        return n;
    }

    boolean seed(int s) {
        if (!in(s, 0, 65535)) {
            return false;
        }
        x = s;
        return true;
    }

    int keep() {
        keptDeeds = new ArrayList<>();
        deeds.forEach(d -> keptDeeds.add(d.copy()));
        keptHearings = new ArrayList<>(hearings);
        keptWells = new ArrayList<>(wells);
        keptX = x;
        return deeds.size();
    }

    boolean undo() {
        if (keptDeeds == null) {
            return false;
        }
        deeds = new ArrayList<>();
        keptDeeds.forEach(d -> deeds.add(d.copy()));
        hearings = new ArrayList<>(keptHearings);
        wells = new ArrayList<>(keptWells);
        x = keptX;
        return true;
    }

    int check(int t, int n) {
        if (!day(t) || n < 0 || n * 4L > tape.size()) {
            return -2;
        }
        List<Integer> bytes = new ArrayList<>(tape);
        tape.clear();
        for (int i = 0; i < n; i++) {
            int number = 0;
            for (int k = 0; k < 4; k++) {
                number = number * 256 + bytes.get(4 * i + k);
            }
            if (i >= 8 || number != who(i, t)) {
                return i;
            }
        }
        return n < 8 ? n : NONE;
    }

    int deedIs(int d, int what) {
        if (!deedNo(d)) {
            return -1000;
        }
        Deed deed = deeds.get(d);
        switch (what) {
            case 0: return deed.day;
            case 1: return deed.entry;
            case 2: return deed.name;
            case 3: return deed.pages.stream().mapToInt(p -> 1 << p).sum();
            case 4: return bit(isVoid(deed));
            default: return -1000;
        }
    }

    int count(int what) {
        if (what >= 30) {
            return what < 38 ? lawOf[what - 30] : NONE;
        }
        if (what >= 20) {
            return death[what - 20];
        }
        if (what >= 10) {
            return what < 13 ? laws[what - 10].size() : NONE;
        }
        switch (what) {
            case 0: return deeds.size();
            case 1: return hearings.size();
            case 2: return wells.size();
            case 3: return tape.size();
            case 4: return x;
            default: return NONE;
        }
    }
}
