import java.util.Arrays;

/** The land office: strips, deeds, entries, what people know, laws, and the merry widow's sales. */
public final class WidowDeeds {

    public static final int NONE = -1;

    private static final int ABSENT = -2;
    private static final int NO_FACT = -1000;

    private static final int PEOPLE = 10;
    private static final int STRIPS = 8;
    private static final int STRIP_SETS = 1 << STRIPS;
    private static final int LAWS = 3;
    private static final int DAYS = 1000;
    private static final int DEEDS = 40;
    private static final int KINDS = 3;
    private static final int PRICES = 10000;
    private static final int PAGES = 14;
    private static final int PAGE_SETS = 1 << PAGES;
    private static final int SEEDS = 65536;
    private static final int BUYERS = 8;
    private static final int REIGN_DAYS = 100;

    private static final int WHOLE = 0;
    private static final int LIEN = 2;

    /** Behind every day there is, also behind those on which a mule may come. */
    private static final int NEVER = 1000000;

    private final Town town = new Town();
    private final Ledger ledger = new Ledger();
    private final Ledger keptLedger = new Ledger();
    private final Gossip gossip = new Gossip();
    private final Gossip keptGossip = new Gossip();
    private final Tape tape = new Tape();
    private final Law[] laws = new Law[LAWS];
    private final LawReader reader = new LawReader();
    private final Chain chain;
    private final Doubts doubts;
    private final Market market = new Market();
    private int muleSeed = 1;
    private int keptMuleSeed = 1;
    private boolean isKept = false;

    public WidowDeeds() {
        for (int i = 0; i < LAWS; i++) {
            laws[i] = new Law();
        }
        chain = new Chain(town, ledger, gossip, laws);
        doubts = new Doubts(ledger, chain);
    }

    public boolean dies(int p, int day) {
        if (!isPerson(p) || !isDayOrNone(day)) {
            return false;
        }
        town.deathDay[p] = day;
        return true;
    }

    public boolean strip(int s, int owner, int law) {
        if (!isStrip(s) || !isPerson(owner) || !within(law, LAWS)) {
            return false;
        }
        town.firstOwner[s] = owner;
        town.lawOf[s] = law;
        return true;
    }

    public int deed(int giver, int taker, int strips, int day, int kind, int paid) {
        if (!mayGive(giver, taker, day, paid) || strips < 1 || strips >= STRIP_SETS || !within(kind, KINDS)) {
            return NONE;
        }
        return give(giver, taker, strips, day, kind, paid);
    }

    public boolean forged(int d, boolean is) {
        if (!isDeed(d) || ledger.deeds[d].isForged == is) {
            return false;
        }
        ledger.deeds[d].isForged = is;
        return true;
    }

    public boolean enter(int d, int day, int a, int b, int c) {
        if (!mayEnter(d, day, a, b, c)) {
            return false;
        }
        ledger.deeds[d].putIn(day, pageSet(a, b, c));
        return true;
    }

    public int mule(int d, int day, int a, int b, int c) {
        if (!mayEnter(d, day, a, b, c)) {
            return NONE;
        }
        muleSeed = (25173 * muleSeed + 13849) % SEEDS;
        int arrival = day + 1 + muleSeed % Doubts.MULE_DAYS;
        ledger.deeds[d].putIn(arrival, pageSet(a, b, c));
        return arrival;
    }

    public boolean name(int d, int p) {
        if (!isDeed(d) || !isPerson(p) || !ledger.deeds[d].hasEntry() || ledger.deeds[d].under == p) {
            return false;
        }
        ledger.deeds[d].under = p;
        return true;
    }

    public boolean lose(int d) {
        if (!isDeed(d) || !ledger.deeds[d].hasEntry()) {
            return false;
        }
        ledger.deeds[d].takeOut();
        return true;
    }

    public int heard(int p, int d, int day) {
        if (!isPerson(p) || !isDeed(d) || !isDay(day) || day < ledger.deeds[d].day || gossip.hasAllHearings()) {
            return NONE;
        }
        gossip.addHearing(p, d, day);
        gossip.spread(d, ledger.deeds[d]);
        return gossip.hearings;
    }

    public int well(int day, int people) {
        if (!isDay(day) || !within(people, 1 << PEOPLE) || Integer.bitCount(people) < 2 || gossip.hasAllWells()) {
            return NONE;
        }
        gossip.addWell(day, people);
        gossip.spreadAll(ledger);
        return gossip.wells;
    }

    public int feed(int a, int b, int c, int d, int e) {
        if (tape.length + 20 > Tape.MOST) {
            return NONE;
        }
        tape.append(a);
        tape.append(b);
        tape.append(c);
        tape.append(d);
        tape.append(e);
        return tape.length;
    }

    public int law(int i, int n) {
        if (!within(i, LAWS) || n < 1 || n > Law.MOST_BYTES || n > tape.length) {
            return NONE;
        }
        int fault = reader.read(tape.bytes, n);
        tape.length = 0;
        if (fault != 0) {
            return fault;
        }
        laws[i].copyFrom(reader.draft);
        return laws[i].clauses;
    }

    public int known(int p, int d) {
        if (!isPerson(p) || !isDeed(d)) {
            return NONE;
        }
        int since = gossip.since[p][d];
        return since == NEVER ? ABSENT : since;
    }

    public int seen(int d, int s, int day, int what) {
        if (!isDeedOf(d, s) || !isDay(day) || !within(what, 2)) {
            return NONE;
        }
        chain.face(s, day);
        boolean isSo = what == 0 ? chain.isWild(ledger.deeds[d], day) : chain.isFindable(ledger.deeds[d], day);
        return isSo ? 1 : 0;
    }

    public int beats(int s, int d, int e, int day, int what) {
        if (!isDeedOf(d, s) || !isDeedOf(e, s) || !isDay(day) || !within(what, 2) || !ledger.isAhead(d, e)) {
            return NONE;
        }
        chain.face(s, day);
        boolean isSo = what == 0 ? chain.overcomes(d, e) : chain.clears(d, e);
        return isSo ? 1 : 0;
    }

    public int holder(int s, int day, int what) {
        if (!isStrip(s) || !isDay(day)) {
            return NONE;
        }
        int who = chain.holderBy(s, day);
        switch (what) {
            case 0:
                return who;
            case 1:
                return chain.length == 0 ? NONE : chain.links[chain.length - 1];
            case 2:
                return chain.length;
            default:
                return what < 10 || what - 10 >= chain.length ? ABSENT : chain.links[what - 10];
        }
    }

    public int why(int s, int d, int day) {
        if (!isDeedOf(d, s) || !isDay(day) || ledger.deeds[d].kind != WHOLE) {
            return NONE;
        }
        chain.holderBy(s, day);
        return chain.reasonOut(d);
    }

    public long burdens(int s, int day) {
        if (!isStrip(s) || !isDay(day)) {
            return NONE;
        }
        return chain.liesOn(s, day);
    }

    public int owed(int s, int day) {
        if (!isStrip(s) || !isDay(day)) {
            return NONE;
        }
        return ledger.lienSum(chain.liesOn(s, day));
    }

    public long unseen(int s, int day, int what) {
        if (!isStrip(s) || !isDay(day) || !within(what, 3)) {
            return NONE;
        }
        chain.face(s, day);
        return chain.hidden(what);
    }

    public int search(int s, int day, int what) {
        if (!isStrip(s) || !isDay(day) || !within(what, 2)) {
            return NONE;
        }
        int pages = chain.pagesToRead(s, day);
        return what == 0 ? Integer.bitCount(pages) : pages;
    }

    public int worst(int day, int what) {
        if (!isDay(day) || !within(what, 2)) {
            return NONE;
        }
        doubts.forget();
        for (int s = 0; s < STRIPS; s++) {
            doubts.countForgeries(s, day);
        }
        return doubts.weightiest(NEVER, what);
    }

    public int missing(int day, int what) {
        if (!isDay(day) || !within(what, 2)) {
            return NONE;
        }
        doubts.forget();
        for (int s = 0; s < STRIPS; s++) {
            doubts.countLosses(s, day);
        }
        return doubts.weightiest(day, what);
    }

    public int trial(int s, int giver, int taker, int day, int paid, int entered, int by, int what) {
        if (!isStrip(s) || !mayGive(giver, taker, day, paid) || !isDay(by) || !within(what, 2)) {
            return NONE;
        }
        if (!isDayOrNone(entered) || entered != NONE && entered < day) {
            return NONE;
        }
        int d = give(giver, taker, 1 << s, day, WHOLE, paid);
        if (entered != NONE) {
            ledger.deeds[d].putIn(entered, 1);
        }
        int who = chain.holderBy(s, by);
        int answer = what == 0 ? who : chain.reasonOut(d);
        ledger.dropLast();
        return answer;
    }

    public int till(int s, int giver, int taker, int day, int paid, int by) {
        if (!isStrip(s) || !mayGive(giver, taker, day, paid) || !isDay(by) || by < day) {
            return NONE;
        }
        int d = give(giver, taker, 1 << s, day, WHOLE, paid);
        int answer = doubts.lastUsefulEntry(s, ledger.deeds[d], by);
        ledger.dropLast();
        return answer;
    }

    public int fewest(int s, int p, int day, int what) {
        if (!isStrip(s) || !isPerson(p) || !isDay(day)) {
            return NONE;
        }
        int size = doubts.fewestForgeries(s, p, day);
        if (what == NONE) {
            return size;
        }
        return within(what, size) ? doubts.row[what] : ABSENT;
    }

    public int odds(int s, int p, long deeds, int sent, int by, int what) {
        if (!isStrip(s) || !isPerson(p) || !isDay(sent) || !isDay(by) || !within(what, 2)) {
            return NONE;
        }
        if (!doubts.maySend(deeds, sent)) {
            return NONE;
        }
        doubts.countWays(s, p, sent, by);
        return what == 0 ? doubts.goodWays : doubts.allWays;
    }

    public boolean buyer(int i, int day, int price, int enters) {
        if (!within(i, BUYERS) || !isDay(day) || price < 1 || price >= PRICES || !within(enters, Market.UNHEARD)) {
            return false;
        }
        market.day[i] = day;
        market.price[i] = price;
        market.entersAfter[i] = enters;
        return true;
    }

    public boolean hears(int i, int j, int days) {
        if (!within(i, BUYERS) || !within(j, BUYERS) || i == j || !within(days, Market.UNHEARD + 1)) {
            return false;
        }
        market.hearsAfter[i][j] = days;
        return true;
    }

    public int widow(int what) {
        if (!within(what, 2)) {
            return NONE;
        }
        int set = market.bestSet();
        return what == 0 ? market.gain(set) : set;
    }

    public int holds(int p, int day) {
        if (!isPerson(p) || !isDay(day)) {
            return NONE;
        }
        int held = 0;
        for (int s = 0; s < STRIPS; s++) {
            if (chain.holderBy(s, day) == p) {
                held |= 1 << s;
            }
        }
        return held;
    }

    public int reign(int s, int p, int from, int to) {
        if (!isStrip(s) || !isPerson(p) || !isDay(from) || !isDay(to)) {
            return NONE;
        }
        if (from > to || to - from >= REIGN_DAYS) {
            return NONE;
        }
        int days = 0;
        for (int day = from; day <= to; day++) {
            if (chain.holderBy(s, day) == p) {
                days++;
            }
        }
        return days;
    }

    public boolean seed(int x) {
        if (!within(x, SEEDS)) {
            return false;
        }
        muleSeed = x;
        return true;
    }

    public int keep() {
        keptLedger.copyFrom(ledger);
        keptGossip.copyFrom(gossip);
        keptMuleSeed = muleSeed;
        isKept = true;
        return ledger.count;
    }

    public boolean undo() {
        if (!isKept) {
            return false;
        }
        ledger.copyFrom(keptLedger);
        gossip.copyFrom(keptGossip);
        gossip.spreadAll(ledger);
        muleSeed = keptMuleSeed;
        return true;
    }

    public int check(int day, int n) {
        if (!isDay(day) || n < 0 || n > tape.length / 4) {
            return ABSENT;
        }
        tape.length = 0; // the bytes themselves stay till the next are fed
        int told = Math.min(n, STRIPS);
        for (int s = 0; s < told; s++) {
            if (tape.wordAt(s) != chain.holderBy(s, day)) {
                return s;
            }
        }
        return n == STRIPS ? NONE : told;
    }

    public int deedIs(int d, int what) {
        if (!isDeed(d)) {
            return NO_FACT;
        }
        Deed deed = ledger.deeds[d];
        switch (what) {
            case 0:
                return deed.day;
            case 1:
                return deed.hasEntry() ? deed.entry : NONE;
            case 2:
                return deed.under;
            case 3:
                return deed.pages;
            case 4:
                return town.isVoid(deed) ? 1 : 0;
            default:
                return NO_FACT;
        }
    }

    public int count(int what) {
        switch (what) {
            case 0:
                return ledger.count;
            case 1:
                return gossip.hearings;
            case 2:
                return gossip.wells;
            case 3:
                return tape.length;
            case 4:
                return muleSeed;
            default:
                return countOfOne(what);
        }
    }

    private int countOfOne(int what) {
        if (what >= 10 && what < 10 + LAWS) {
            return laws[what - 10].clauses;
        }
        if (what >= 20 && what < 20 + PEOPLE) {
            return town.deathDay[what - 20];
        }
        if (what >= 30 && what < 30 + STRIPS) {
            return town.lawOf[what - 30];
        }
        return NONE;
    }

    private static boolean within(int value, int bound) {
        return value >= 0 && value < bound;
    }

    private static boolean isPerson(int p) {
        return within(p, PEOPLE);
    }

    private static boolean isStrip(int s) {
        return within(s, STRIPS);
    }

    private static boolean isDay(int day) {
        return within(day, DAYS);
    }

    private static boolean isDayOrNone(int day) {
        return day == NONE || isDay(day);
    }

    private static int pageSet(int a, int b, int c) {
        return 1 << a | 1 << b | 1 << c;
    }

    private boolean isDeed(int d) {
        return within(d, ledger.count);
    }

    private boolean isDeedOf(int d, int s) {
        return isDeed(d) && isStrip(s) && ledger.deeds[d].isOf(s);
    }

    private boolean mayGive(int giver, int taker, int day, int paid) {
        return isPerson(giver) && isPerson(taker) && giver != taker && isDay(day) && within(paid, PRICES)
                && !ledger.isFull();
    }

    private boolean mayEnter(int d, int day, int a, int b, int c) {
        return isDeed(d) && isDay(day) && within(a, PAGES) && within(b, PAGES) && within(c, PAGES)
                && day >= ledger.deeds[d].day && !ledger.deeds[d].hasEntry();
    }

    private int give(int giver, int taker, int strips, int day, int kind, int paid) {
        Deed deed = ledger.addBlank(day);
        deed.giver = giver;
        deed.taker = taker;
        deed.strips = strips;
        deed.kind = kind;
        deed.paid = paid;
        int d = ledger.count - 1;
        gossip.spread(d, deed);
        return d;
    }

    /** Whose strips these are at first, under which law, and who dies when. */
    private static final class Town {
        final int[] deathDay = new int[PEOPLE];
        final int[] firstOwner = new int[STRIPS];
        final int[] lawOf = new int[STRIPS];

        Town() {
            Arrays.fill(deathDay, NONE);
        }

        boolean isDead(int p, int day) {
            return deathDay[p] != NONE && deathDay[p] <= day;
        }

        boolean isVoid(Deed deed) {
            return deed.isForged || isDead(deed.giver, deed.day);
        }
    }

    /** One deed, with its entry in the office if there is one. */
    private static final class Deed {
        int giver;
        int taker;
        int strips;
        int day;
        int kind;
        int paid;
        boolean isForged;
        int entry = NEVER;
        int under = NONE;
        int pages;

        boolean isOf(int strip) {
            return (strips >> strip & 1) != 0;
        }

        boolean hasEntry() {
            return entry != NEVER;
        }

        boolean isMisnamed() {
            return under != NONE && under != giver;
        }

        void putIn(int fromDay, int onPages) {
            entry = fromDay;
            under = giver;
            pages = onPages;
        }

        void takeOut() {
            entry = NEVER;
            under = NONE;
            pages = 0;
        }

        void copyFrom(Deed other) {
            giver = other.giver;
            taker = other.taker;
            strips = other.strips;
            day = other.day;
            kind = other.kind;
            paid = other.paid;
            isForged = other.isForged;
            entry = other.entry;
            under = other.under;
            pages = other.pages;
        }
    }

    /** All deeds by number, and their order by day, then number. */
    private static final class Ledger {
        final Deed[] deeds = new Deed[DEEDS];
        final int[] order = new int[DEEDS];
        int count = 0;

        Ledger() {
            for (int d = 0; d < DEEDS; d++) {
                deeds[d] = new Deed();
            }
        }

        boolean isFull() {
            return count >= DEEDS;
        }

        boolean isAhead(int d, int e) {
            return deeds[d].day < deeds[e].day || deeds[d].day == deeds[e].day && d < e;
        }

        /** Only while the ledger is not full. */
        Deed addBlank(int day) {
            Deed deed = deeds[count];
            deed.day = day;
            deed.isForged = false;
            deed.takeOut();
            int place = count;
            while (place > 0 && deeds[order[place - 1]].day > day) {
                order[place] = order[place - 1];
                place--;
            }
            order[place] = count;
            count++;
            return deed;
        }

        void dropLast() {
            if (count == 0) {
                return;
            }
            count--;
            int place = 0;
            for (int i = 0; i <= count; i++) {
                if (order[i] != count) {
                    order[place] = order[i];
                    place++;
                }
            }
        }

        int lienSum(long among) {
            int sum = 0;
            for (int d = 0; d < count; d++) {
                if ((among >>> d & 1) != 0 && deeds[d].kind == LIEN) {
                    sum += deeds[d].paid;
                }
            }
            return sum;
        }

        void copyFrom(Ledger other) {
            for (int d = 0; d < other.count; d++) {
                deeds[d].copyFrom(other.deeds[d]);
                order[d] = other.order[d];
            }
            count = other.count;
        }
    }

    /** Who heard of what, who sat at which well, and since when each deed is known to each person. */
    private static final class Gossip {
        static final int HEARINGS = 60;
        static final int WELLS = 20;

        final int[] who = new int[HEARINGS];
        final int[] which = new int[HEARINGS];
        final int[] when = new int[HEARINGS];
        int hearings = 0;
        /** By days, then as they were told: so they need no sorting when they are gone through. */
        final int[] wellDay = new int[WELLS];
        final int[] sitters = new int[WELLS];
        int wells = 0;
        final int[][] since = new int[PEOPLE][DEEDS];

        boolean hasAllHearings() {
            return hearings >= HEARINGS;
        }

        boolean hasAllWells() {
            return wells >= WELLS;
        }

        void addHearing(int p, int d, int day) {
            if (hasAllHearings()) {
                return;
            }
            who[hearings] = p;
            which[hearings] = d;
            when[hearings] = day;
            hearings++;
        }

        void addWell(int day, int people) {
            if (hasAllWells()) {
                return;
            }
            int place = wells;
            while (place > 0 && wellDay[place - 1] > day) {
                wellDay[place] = wellDay[place - 1];
                sitters[place] = sitters[place - 1];
                place--;
            }
            wellDay[place] = day;
            sitters[place] = people;
            wells++;
        }

        void spreadAll(Ledger ledger) {
            for (int d = 0; d < ledger.count; d++) {
                spread(d, ledger.deeds[d]);
            }
        }

        void spread(int d, Deed deed) {
            for (int p = 0; p < PEOPLE; p++) {
                since[p][d] = p == deed.giver || p == deed.taker ? deed.day : NEVER;
            }
            for (int i = 0; i < hearings; i++) {
                if (which[i] == d) {
                    learn(who[i], d, when[i]);
                }
            }
            for (int w = 0; w < wells; w++) {
                if (isTalkedOf(w, d)) {
                    tellSitters(w, d);
                }
            }
        }

        private void learn(int p, int d, int day) {
            since[p][d] = Math.min(since[p][d], day);
        }

        private boolean isTalkedOf(int w, int d) {
            for (int p = 0; p < PEOPLE; p++) {
                if ((sitters[w] >> p & 1) != 0 && since[p][d] <= wellDay[w]) {
                    return true;
                }
            }
            return false;
        }

        private void tellSitters(int w, int d) {
            for (int p = 0; p < PEOPLE; p++) {
                if ((sitters[w] >> p & 1) != 0) {
                    learn(p, d, wellDay[w]);
                }
            }
        }

        /** Since when a deed is known is left out: it follows from the rest and the deeds. */
        void copyFrom(Gossip other) {
            System.arraycopy(other.who, 0, who, 0, HEARINGS);
            System.arraycopy(other.which, 0, which, 0, HEARINGS);
            System.arraycopy(other.when, 0, when, 0, HEARINGS);
            hearings = other.hearings;
            System.arraycopy(other.wellDay, 0, wellDay, 0, WELLS);
            System.arraycopy(other.sitters, 0, sitters, 0, WELLS);
            wells = other.wells;
        }
    }

    /** Bytes that wait to be read as a law or as numbers. */
    private static final class Tape {
        static final int MOST = 200;

        final int[] bytes = new int[MOST];
        int length = 0;

        void append(int word) {
            for (int shift = 24; shift >= 0 && length < MOST; shift -= 8) {
                bytes[length] = word >>> shift & 255;
                length++;
            }
        }

        int wordAt(int place) {
            if (place < 0 || place >= MOST / 4) {
                return 0;
            }
            int at = place * 4;
            return bytes[at] << 24 | bytes[at + 1] << 16 | bytes[at + 2] << 8 | bytes[at + 3];
        }
    }

    /**
     * A law as steps for a small stack machine. A step is a sign of the text (or one of those below) and a number;
     * no sign of the text makes more than one step, so a law has no more steps than bytes.
     */
    private static final class Law {
        static final int MOST_BYTES = 160;
        static final int MOST_CLAUSES = 12;
        static final int MOST_DAYS = 1000;
        static final int LETTERS = 26;

        static final char NUMBER = '0';
        static final char LETTER = 'a';
        static final char END = ';';

        private static final int SIGN_SHIFT = 20;
        private static final int ARGUMENT = (1 << SIGN_SHIFT) - 1;
        /** More than six brackets in one another can ask for. */
        private static final int STACK = 40;

        private final int[] steps = new int[MOST_BYTES];
        private int length = 0;
        private final int[] letterOf = new int[MOST_CLAUSES];
        private final int[] conditionAt = new int[MOST_CLAUSES];
        private final int[] spanAt = new int[MOST_CLAUSES];
        int clauses = 0;
        private final int[] stack = new int[STACK];
        private int height = 0;

        void clear() {
            length = 0;
            clauses = 0;
        }

        void copyFrom(Law other) {
            System.arraycopy(other.steps, 0, steps, 0, MOST_BYTES);
            length = other.length;
            System.arraycopy(other.letterOf, 0, letterOf, 0, MOST_CLAUSES);
            System.arraycopy(other.conditionAt, 0, conditionAt, 0, MOST_CLAUSES);
            System.arraycopy(other.spanAt, 0, spanAt, 0, MOST_CLAUSES);
            clauses = other.clauses;
        }

        int addStep(char sign, int argument) {
            if (length < MOST_BYTES) {
                steps[length] = sign << SIGN_SHIFT | argument & ARGUMENT;
                length++;
            }
            return length - 1;
        }

        /** A jump lands behind all steps that there are by now. */
        void aimHere(int jump) {
            if (jump >= 0 && jump < length) {
                steps[jump] = steps[jump] & ~ARGUMENT | length;
            }
        }

        void addClause(int letter) {
            if (clauses < MOST_CLAUSES) {
                letterOf[clauses] = letter;
                spanAt[clauses] = length;
                clauses++;
            }
        }

        void startCondition() {
            if (clauses > 0) {
                conditionAt[clauses - 1] = length;
            }
        }

        boolean grants(char letter, int[] facts) {
            for (int i = 0; i < clauses; i++) {
                if (letterOf[i] == letter && run(conditionAt[i], facts) != 0) {
                    return true;
                }
            }
            return false;
        }

        int daysOf(int[] facts) {
            for (int i = 0; i < clauses; i++) {
                if (letterOf[i] == 'y' && run(conditionAt[i], facts) != 0) {
                    return Math.max(0, Math.min(MOST_DAYS, run(spanAt[i], facts)));
                }
            }
            return 0;
        }

        /** What is refused answers 0 at once, which is both a condition that does not hold and a sum that is 0. */
        private int run(int start, int[] facts) {
            height = 0;
            for (int at = start; at < length; at++) {
                int sign = steps[at] >> SIGN_SHIFT;
                int argument = steps[at] & ARGUMENT;
                switch (sign) {
                    case END:
                        return pop();
                    case NUMBER:
                        push(argument);
                        break;
                    case LETTER:
                        push(argument < LETTERS ? facts[argument] : 0);
                        break;
                    case '!':
                        push(1 - pop());
                        break;
                    case '&':
                    case '|':
                        int left = pop();
                        if ((left != 0) == (sign == '|')) {
                            push(left);
                            at = Math.max(at, argument - 1);
                        }
                        break;
                    default:
                        int right = pop();
                        if (right == 0 && (sign == '/' || sign == '%')) {
                            return 0;
                        }
                        push(reckon(sign, pop(), right));
                        break;
                }
            }
            return 0;
        }

        private static int reckon(int sign, int left, int right) {
            switch (sign) {
                case '+':
                    return left + right;
                case '-':
                    return left - right;
                case '*':
                    return left * right;
                case '/':
                    return right == 0 ? 0 : left / right;
                case '%':
                    return right == 0 ? 0 : left % right;
                case '<':
                    return left < right ? 1 : 0;
                case '>':
                    return left > right ? 1 : 0;
                default:
                    return left == right ? 1 : 0;
            }
        }

        private void push(int value) {
            if (height < STACK) {
                stack[height] = value;
                height++;
            }
        }

        private int pop() {
            if (height == 0) {
                return 0;
            }
            height--;
            return stack[height];
        }
    }

    /** Reads a law's text from the left on, up to its first fault. Each reading method says whether there was none. */
    private static final class LawReader {
        private static final int CANNOT_STAND = 1;
        private static final int SIXTH_DIGIT = 2;
        private static final int THIRTEENTH_CLAUSE = 4;
        private static final int SEVENTH_OPEN = 5;

        private static final int MOST_OPEN = 6;
        private static final int MOST_DIGITS = 5;
        private static final int TEXT_END = -1;
        private static final String FACT_LETTERS = "nfcuvpgxkwiqht";

        /** Apart from the laws in force, which a fault leaves as they are. */
        final Law draft = new Law();
        private int[] text = new int[0];
        private int length = 0;
        private int at = 0;
        private int open = 0;
        private int fault = 0;

        /** 0, or the fault as the office tells it. */
        int read(int[] bytes, int size) {
            text = bytes;
            length = Math.min(size, bytes.length);
            at = 0;
            open = 0;
            fault = 0;
            draft.clear();
            boolean isFine = clause();
            while (isFine && at < length && text[at] == ';') {
                at++;
                isFine = clause();
            }
            if (isFine && at < length) {
                fail(CANNOT_STAND);
            }
            return fault;
        }

        private boolean fail(int number) {
            fault = -1000 * number - at;
            return false;
        }

        private int sign() {
            return at < length ? text[at] : TEXT_END;
        }

        private boolean openSign(char wanted) {
            if (sign() != wanted) {
                return fail(CANNOT_STAND);
            }
            if (open == MOST_OPEN) {
                return fail(SEVENTH_OPEN);
            }
            at++;
            open++;
            return true;
        }

        private boolean closeSign(char wanted) {
            if (sign() != wanted) {
                return fail(CANNOT_STAND);
            }
            at++;
            open--;
            return true;
        }

        private boolean clause() {
            int letter = sign();
            if (letter != 'b' && letter != 's' && letter != 'y') {
                return fail(CANNOT_STAND);
            }
            if (draft.clauses == Law.MOST_CLAUSES) {
                return fail(THIRTEENTH_CLAUSE);
            }
            at++;
            draft.addClause(letter);
            if (letter == 'y') {
                if (!sum()) {
                    return false;
                }
                draft.addStep(Law.END, 0);
            }
            draft.startCondition();
            if (!bracketed()) {
                return false;
            }
            draft.addStep(Law.END, 0);
            return true;
        }

        private boolean bracketed() {
            return openSign('(') && condition() && closeSign(')');
        }

        private boolean condition() {
            boolean isFine = part();
            while (isFine && at < length && text[at] == '|') {
                at++;
                int jump = draft.addStep('|', 0);
                isFine = part();
                draft.aimHere(jump);
            }
            return isFine;
        }

        private boolean part() {
            boolean isFine = piece();
            while (isFine && at < length && text[at] == '&') {
                at++;
                int jump = draft.addStep('&', 0);
                isFine = piece();
                draft.aimHere(jump);
            }
            return isFine;
        }

        private boolean piece() {
            switch (sign()) {
                case '!':
                    return negated();
                case '(':
                    return bracketed();
                default:
                    return comparison();
            }
        }

        private boolean negated() {
            if (!openSign('!') || !piece()) {
                return false;
            }
            open--;
            draft.addStep('!', 0);
            return true;
        }

        private boolean comparison() {
            if (!sum()) {
                return false;
            }
            int sign = sign();
            if (sign != '<' && sign != '>' && sign != '=') {
                return fail(CANNOT_STAND);
            }
            at++;
            if (!sum()) {
                return false;
            }
            draft.addStep((char) sign, 0);
            return true;
        }

        private boolean sum() {
            boolean isFine = product();
            while (isFine && at < length && (text[at] == '+' || text[at] == '-')) {
                char sign = (char) text[at];
                at++;
                isFine = product();
                draft.addStep(sign, 0);
            }
            return isFine;
        }

        private boolean product() {
            boolean isFine = factor();
            while (isFine && at < length && (text[at] == '*' || text[at] == '/' || text[at] == '%')) {
                char sign = (char) text[at];
                at++;
                isFine = factor();
                draft.addStep(sign, 0);
            }
            return isFine;
        }

        private boolean factor() {
            int sign = sign();
            if (sign == '[') {
                return openSign('[') && sum() && closeSign(']');
            }
            if (isDigit(sign)) {
                return number();
            }
            if (sign == TEXT_END || FACT_LETTERS.indexOf((char) sign) < 0) {
                return fail(CANNOT_STAND);
            }
            at++;
            draft.addStep(Law.LETTER, sign - 'a');
            return true;
        }

        private boolean number() {
            int value = 0;
            int digits = 0;
            while (at < length && isDigit(text[at])) {
                if (digits == MOST_DIGITS) {
                    return fail(SIXTH_DIGIT);
                }
                value = value * 10 + text[at] - '0';
                digits++;
                at++;
            }
            draft.addStep(Law.NUMBER, value);
            return true;
        }

        private static boolean isDigit(int sign) {
            return sign >= '0' && sign <= '9';
        }
    }

    /** One strip as it is by one day: face() turns to it, follow() walks from its first owner to its holder. */
    private static final class Chain {
        private final Town town;
        private final Ledger ledger;
        private final Gossip gossip;
        private final Law[] laws;

        private int strip;
        private int day;
        private int owner;
        private Law law;
        /** The deeds of which the chain can be made. */
        long standing = 0;
        /** From which day on a deed of all of the strip to each person is entered. */
        private final int[] titledSince = new int[PEOPLE];
        private final int[] facts = new int[Law.LETTERS];
        /** Bit d of row e: whether it was asked if e beats d, and the answer; forging changes neither. */
        private final long[] asked = new long[DEEDS];
        private final long[] answered = new long[DEEDS];

        final int[] links = new int[DEEDS];
        int length = 0;
        private long lookedAt = 0;
        private final int[] pageSets = new int[DEEDS];
        private int pageSetCount = 0;

        Chain(Town town, Ledger ledger, Gossip gossip, Law[] laws) {
            this.town = town;
            this.ledger = ledger;
            this.gossip = gossip;
            this.laws = laws;
            law = laws[0];
        }

        void face(int newStrip, int newDay) {
            strip = newStrip;
            day = newDay;
            owner = town.firstOwner[strip];
            law = laws[town.lawOf[strip]];
            standing = 0;
            Arrays.fill(titledSince, NEVER);
            for (int d = 0; d < ledger.count; d++) {
                asked[d] = 0;
                answered[d] = 0;
                Deed deed = ledger.deeds[d];
                if (deed.kind == WHOLE && deed.isOf(strip)) {
                    titledSince[deed.taker] = Math.min(titledSince[deed.taker], deed.entry);
                    standing = standingWith(d);
                }
            }
        }

        int holderBy(int newStrip, int newDay) {
            face(newStrip, newDay);
            return follow(standing);
        }

        /** With a deed of all of the strip among those that stand, or without it, as it is now. */
        long standingWith(int d) {
            long bit = 1L << d;
            return isGood(ledger.deeds[d]) ? standing | bit : standing & ~bit;
        }

        private boolean isGood(Deed deed) {
            return deed.isOf(strip) && deed.day <= day && !town.isVoid(deed);
        }

        int follow(long set) {
            length = 0;
            lookedAt = 0;
            int now = owner;
            int from = 0;
            while (from < ledger.count) {
                int best = NONE;
                for (int i = from; i < ledger.count; i++) {
                    int e = ledger.order[i];
                    if ((set >>> e & 1) != 0 && ledger.deeds[e].giver == now) {
                        lookedAt |= 1L << e;
                        best = best == NONE || overcomes(ledger.order[best], e) ? i : best;
                    }
                }
                if (best == NONE) {
                    return now;
                }
                links[length] = ledger.order[best];
                now = ledger.deeds[links[length]].taker;
                length++;
                from = best + 1;
            }
            return now;
        }

        boolean overcomes(int d, int e) {
            long bit = 1L << d;
            if ((asked[e] & bit) == 0) {
                asked[e] |= bit;
                gatherFacts(d, e);
                if (law.grants('b', facts)) {
                    answered[e] |= bit;
                }
            }
            return (answered[e] & bit) != 0;
        }

        boolean clears(int d, int e) {
            gatherFacts(d, e);
            return law.grants('s', facts);
        }

        /** No later deed is asked about here, so the letters that tell of one are 0. */
        private int daysOnLand(int d) {
            Arrays.fill(facts, 0);
            gatherFactsOfOne(ledger.deeds[d]);
            return law.daysOf(facts);
        }

        private void gatherFacts(int d, int e) {
            Deed first = ledger.deeds[d];
            Deed later = ledger.deeds[e];
            boolean isLaterIn = later.entry <= day;
            gatherFactsOfOne(first);
            tell('n', gossip.since[later.taker][d] <= later.day);
            tell('f', isFindable(first, later.day));
            tell('c', isLaterIn && later.entry < first.entry);
            tell('v', isLaterIn);
            facts['p' - 'a'] = later.paid;
            facts['x' - 'a'] = later.day - first.day;
            tell('w', isWild(first, later.day));
        }

        private void gatherFactsOfOne(Deed deed) {
            tell('u', deed.entry <= day);
            facts['g' - 'a'] = deed.paid;
            facts['k' - 'a'] = deed.kind;
            tell('i', deed.isMisnamed());
            tell('q', town.isDead(deed.taker, day));
            facts['h' - 'a'] = strip;
            facts['t' - 'a'] = day;
        }

        private void tell(char letter, boolean isSo) {
            facts[letter - 'a'] = isSo ? 1 : 0;
        }

        boolean isWild(Deed deed, int onDay) {
            return deed.giver != owner && titledSince[deed.giver] > onDay;
        }

        boolean isFindable(Deed deed, int onDay) {
            return deed.entry <= onDay && !deed.isMisnamed() && !isWild(deed, onDay);
        }

        /** Behind follow(): why a deed of all of the strip is not in the chain. */
        int reasonOut(int d) {
            Deed deed = ledger.deeds[d];
            for (int i = 0; i < length; i++) {
                if (links[i] == d) {
                    return 0;
                }
            }
            if (deed.day > day) {
                return 1;
            }
            if (deed.isForged) {
                return 2;
            }
            if (town.isVoid(deed)) {
                return 3;
            }
            return (lookedAt >>> d & 1) != 0 ? 4 : 5;
        }

        long liesOn(int newStrip, int newDay) {
            holderBy(newStrip, newDay);
            long set = 0;
            for (int d = 0; d < ledger.count; d++) {
                if (ledger.deeds[d].kind != WHOLE && isGood(ledger.deeds[d]) && isBurden(d)) {
                    set |= 1L << d;
                }
            }
            return set;
        }

        private boolean isBurden(int d) {
            int now = owner;
            for (int i = 0; i < length; i++) {
                if (ledger.isAhead(links[i], d)) {
                    now = ledger.deeds[links[i]].taker;
                } else if (clears(d, links[i])) {
                    return false;
                }
            }
            int days = daysOnLand(d);
            return ledger.deeds[d].giver == now && (days == 0 || ledger.deeds[d].day + days > day);
        }

        /** What 0 those not entered, 1 the misnamed ones, 2 the wild ones. */
        long hidden(int what) {
            long set = 0;
            for (int d = 0; d < ledger.count; d++) {
                Deed deed = ledger.deeds[d];
                if (deed.isOf(strip) && deed.day <= day && whyHidden(deed) == what) {
                    set |= 1L << d;
                }
            }
            return set;
        }

        private int whyHidden(Deed deed) {
            if (deed.entry > day) {
                return 0;
            }
            if (deed.isMisnamed()) {
                return 1;
            }
            return isWild(deed, day) ? 2 : NONE;
        }

        int pagesToRead(int newStrip, int newDay) {
            holderBy(newStrip, newDay);
            gatherPageSets(namesInChain());
            int set = pageSetCount == 0 ? 0 : NONE;
            for (int size = 1; size <= PAGES && set == NONE; size++) {
                set = leastOfSize(size);
            }
            return set;
        }

        /** NONE if no set of so many pages will do; the sets come in their order as numbers. */
        private int leastOfSize(int size) {
            int set = (1 << size) - 1;
            for (int tries = 0; tries < PAGE_SETS && set < PAGE_SETS; tries++) {
                if (meetsAll(set)) {
                    return set;
                }
                set = nextOfSize(set);
            }
            return NONE;
        }

        private int namesInChain() {
            int names = 1 << owner;
            for (int i = 0; i < length; i++) {
                names |= 1 << ledger.deeds[links[i]].taker;
            }
            return names;
        }

        private void gatherPageSets(int names) {
            pageSetCount = 0;
            for (int d = 0; d < ledger.count; d++) {
                Deed deed = ledger.deeds[d];
                if (deed.isOf(strip) && deed.entry <= day && (names >> deed.under & 1) != 0) {
                    pageSets[pageSetCount] = deed.pages;
                    pageSetCount++;
                }
            }
        }

        /** The next higher number with as many bits; a set is never empty here. */
        private static int nextOfSize(int set) {
            int lowest = set & -set;
            int carried = set + lowest;
            return carried | (set ^ carried) >>> 2 + Integer.numberOfTrailingZeros(lowest);
        }

        private boolean meetsAll(int set) {
            for (int i = 0; i < pageSetCount; i++) {
                if ((pageSets[i] & set) == 0) {
                    return false;
                }
            }
            return true;
        }
    }

    /** What would be if deeds or entries were other ones; all is put back before a method ends. */
    private static final class Doubts {
        static final int MULE_DAYS = 7;

        private static final int ROW_MOST = 3;
        private static final int SENT_MOST = 4;

        private final Ledger ledger;
        private final Chain chain;
        private final int[] changes = new int[DEEDS];
        final int[] row = new int[ROW_MOST];
        private final int[] onTheWay = new int[SENT_MOST];
        private int sentCount = 0;
        int goodWays = 0;
        int allWays = 1;

        Doubts(Ledger ledger, Chain chain) {
            this.ledger = ledger;
            this.chain = chain;
        }

        void forget() {
            Arrays.fill(changes, 0);
        }

        void countForgeries(int s, int day) {
            int before = chain.holderBy(s, day);
            for (int d = 0; d < ledger.count; d++) {
                Deed deed = ledger.deeds[d];
                if (deed.kind == WHOLE && deed.isOf(s)) {
                    deed.isForged = !deed.isForged;
                    if (chain.follow(chain.standingWith(d)) != before) {
                        changes[d]++;
                    }
                    deed.isForged = !deed.isForged;
                }
            }
        }

        void countLosses(int s, int day) {
            int before = chain.holderBy(s, day);
            for (int d = 0; d < ledger.count; d++) {
                Deed deed = ledger.deeds[d];
                if (deed.isOf(s) && deed.entry <= day) {
                    int entry = deed.entry;
                    int under = deed.under;
                    int pages = deed.pages;
                    deed.takeOut();
                    if (chain.holderBy(s, day) != before) {
                        changes[d]++;
                    }
                    deed.putIn(entry, pages);
                    deed.under = under;
                }
            }
        }

        /** Of those entered by a day; of all of them, if that day is NEVER. */
        int weightiest(int day, int what) {
            int best = ABSENT;
            for (int d = 0; d < ledger.count; d++) {
                if (ledger.deeds[d].entry <= day && (best == ABSENT || changes[d] > changes[best])) {
                    best = d;
                }
            }
            return what == 0 || best == ABSENT ? best : changes[best];
        }

        /** The deed is the ledger's last one. */
        int lastUsefulEntry(int s, Deed deed, int by) {
            int entry = by;
            for (int tries = 0; tries < DAYS && entry >= deed.day; tries++) {
                deed.putIn(entry, 1);
                if (chain.holderBy(s, by) == deed.taker) {
                    return entry;
                }
                entry = turnAhead(entry, deed.day);
            }
            return ABSENT;
        }

        /**
         * An entry's day matters only as it compares with the days and the entries of deeds, so between two of those
         * nothing changes and the last day will do for all of them. NONE if there is no day left.
         */
        private int turnAhead(int entry, int first) {
            if (entry <= first) {
                return NONE;
            }
            int turn = first;
            for (int d = 0; d < ledger.count - 1; d++) {
                turn = laterTurn(turn, ledger.deeds[d].day, entry);
                turn = laterTurn(turn, ledger.deeds[d].entry, entry);
                turn = laterTurn(turn, ledger.deeds[d].entry - 1, entry);
            }
            return turn;
        }

        private static int laterTurn(int turn, int other, int end) {
            return other < end ? Math.max(turn, other) : turn;
        }

        /** How many, with the deeds in row; ABSENT if three are too few. */
        int fewestForgeries(int s, int p, int day) {
            chain.face(s, day);
            for (int size = 0; size <= ROW_MOST; size++) {
                if (strike(chain.standing, 0, size, p)) {
                    return size;
                }
            }
            return ABSENT;
        }

        /**
         * Whether as many deeds as are left of size, each of a higher number than the one before, make p the holder.
         * What does not stand is never among the fewest: without it the others would do as well.
         */
        private boolean strike(long standing, int place, int size, int p) {
            if (place >= size || place >= ROW_MOST) {
                return chain.follow(standing) == p;
            }
            int from = place == 0 ? 0 : row[place - 1] + 1;
            for (int d = from; d < ledger.count; d++) {
                if ((standing >>> d & 1) != 0) {
                    row[place] = d;
                    if (strike(standing & ~(1L << d), place + 1, size, p)) {
                        return true;
                    }
                }
            }
            return false;
        }

        /** Notes those that are to be sent, if they can be. */
        boolean maySend(long deeds, int sent) {
            if (deeds == 0 || deeds >>> ledger.count != 0 || Long.bitCount(deeds) > SENT_MOST) {
                return false;
            }
            sentCount = 0;
            for (int d = 0; d < ledger.count; d++) {
                if ((deeds >>> d & 1) != 0) {
                    if (ledger.deeds[d].hasEntry() || ledger.deeds[d].day > sent) {
                        return false;
                    }
                    onTheWay[sentCount] = d;
                    sentCount++;
                }
            }
            return true;
        }

        void countWays(int s, int p, int sent, int by) {
            goodWays = 0;
            allWays = 1;
            for (int i = 0; i < sentCount; i++) {
                allWays *= MULE_DAYS;
            }
            for (int way = 0; way < allWays; way++) {
                arrive(way, sent);
                if (chain.holderBy(s, by) == p) {
                    goodWays++;
                }
            }
            for (int i = 0; i < sentCount; i++) {
                ledger.deeds[onTheWay[i]].takeOut();
            }
            cancel();
        }

        private void arrive(int way, int sent) {
            int rest = way;
            for (int i = 0; i < sentCount; i++) {
                ledger.deeds[onTheWay[i]].putIn(sent + 1 + rest % MULE_DAYS, 1);
                rest /= MULE_DAYS;
            }
        }

        /** All ways are a power of a prime: no other number can divide both. */
        private void cancel() {
            while (allWays > 1 && goodWays % MULE_DAYS == 0) {
                goodWays /= MULE_DAYS;
                allWays /= MULE_DAYS;
            }
        }
    }

    /** Those to whom the widow may sell her strip. */
    private static final class Market {
        static final int UNHEARD = 100;

        final int[] day = new int[BUYERS];
        /** 0 where there is no buyer. */
        final int[] price = new int[BUYERS];
        final int[] entersAfter = new int[BUYERS];
        final int[][] hearsAfter = new int[BUYERS][BUYERS];
        private final int[] warnedBy = new int[BUYERS];

        Market() {
            for (int i = 0; i < BUYERS; i++) {
                Arrays.fill(hearsAfter[i], UNHEARD);
            }
        }

        int bestSet() {
            gatherWarnings();
            int best = 0;
            for (int set = 1; set < 1 << BUYERS; set++) {
                if (allBuy(set) && isBetter(set, best)) {
                    best = set;
                }
            }
            return best;
        }

        int gain(int set) {
            int sum = 0;
            for (int i = 0; i < BUYERS; i++) {
                if ((set >> i & 1) != 0) {
                    sum += price[i];
                }
            }
            return sum;
        }

        private boolean isBetter(int set, int best) {
            int more = gain(set) - gain(best);
            return more > 0 || more == 0 && Integer.bitCount(set) < Integer.bitCount(best);
        }

        private boolean allBuy(int set) {
            for (int i = 0; i < BUYERS; i++) {
                if ((set >> i & 1) != 0 && (price[i] == 0 || (set & warnedBy[i]) != 0)) {
                    return false;
                }
            }
            return true;
        }

        private void gatherWarnings() {
            for (int i = 0; i < BUYERS; i++) {
                warnedBy[i] = 0;
                for (int j = 0; j < BUYERS; j++) {
                    if (isWarned(i, j)) {
                        warnedBy[i] |= 1 << j;
                    }
                }
            }
        }

        private boolean isWarned(int i, int j) {
            boolean isAhead = day[j] < day[i] || day[j] == day[i] && j < i;
            boolean hasHeard = hearsAfter[i][j] < UNHEARD && day[j] + hearsAfter[i][j] <= day[i];
            return isAhead && (hasHeard || day[j] + entersAfter[j] <= day[i]);
        }
    }
}
