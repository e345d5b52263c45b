/** Each sentence of promises 12, 13 and 16 that names an edge, and of the terms on laws: texts, faults, letters. */
public final class LawEdgesTest {
    private static final Report R = new Report("LawEdgesTest");
    private static final Edges SOME = new Edges(R, Offices.SOME);
    private static final Edges EMPTY = new Edges(R, Offices.EMPTY);
    private static final Edges NEARLY_FULL = new Edges(R, Offices.NEARLY_FULL);
    private static final Edges FULL = new Edges(R, Offices.FULL);

    /** Deed 0: 1 to 2 on day 10 for 5; deed 1: 1 to 3 on day 14 for 7; both of all strips, which were 1's. */
    private static final String[] TWO_DEEDS = {"strip 0 1 0", "deed 1 2 255 10 0 5", "deed 1 3 255 14 0 7"};

    public static void main(String[] args) {
        promise12();
        promise12HighestFirst();
        promise13Which();
        promise13HowManyBytes();
        promise13EmptyThen();
        promise13TheTextBefore();
        termsClauses();
        termsOneHundredAndSixty();
        promise13FirstBytesAlone();
        promise13ManyInARow();
        termsEveryByte();
        termsEnds();
        termsDigits();
        termsOpen();
        termsFirstFault();
        termsBits();
        termsDivision();
        termsAsMuchAsMatters();
        termsKnewAndFound();
        termsEntered();
        termsNumbersOfDeeds();
        termsDeadStripDay();
        termsDaysOfALane();
        promise16();
        promise16Which();
        R.close();
    }

    private static void run(String sentence, String... rows) {
        Edges.run(R, sentence, rows);
    }

    private static void promise12() {
        EMPTY.gives("12: how many it has", "count 3 -> 0", "feed 0 0 0 0 0 -> 20");
        SOME.gives("12: behind the tape", "feed -1 -1 -1 -1 -1 -> 60", "feed -2147483648 2147483647 0 1 -1 -> 60");
        NEARLY_FULL.gives("12: 200 are not more than 200", "feed 1 2 3 4 5 -> 200");
        FULL.refuses("12: NONE if that would be more than 200", "feed 0 0 0 0 0 -> -1", "feed -1 -1 -1 -1 -1 -> -1");
    }

    private static void promise12HighestFirst() {
        for (int place = 0; place < 20; place++) {
            int[] words = new int[5];
            StringBuilder row = new StringBuilder("feed");
            for (int w = 0; w < 5; w++) {
                for (int k = 0; k < 4; k++) {
                    words[w] = words[w] << 8 | (4 * w + k == place ? 0 : text20().charAt(4 * w + k));
                }
                row.append(' ').append(words[w]);
            }
            run("12: the highest of each int first: a byte at each place", row.toString(),
                "law 0 20 -> " + (-1000 - place));
        }
        run("12: Twenty bytes come behind the tape", "feed 1646816829 824785779 677788976 691763510 807955261",
            "feed 824795489 0 0 0 0 -> 40", "law 0 22 -> 3");
    }

    private static String text20() {
        return "b(n=1&f=0&c=1&1=1&i=";
    }

    private static void promise13Which() {
        SOME.bounds("13: THE LAWS 0 to 2", "law # 21", 0, 3, 2, 3, -1);
        run("13: LAW i alone", "law 0 b(1=1)", "law 2 b(1=1);b(1=1)", "count 10 -> 1", "count 11 -> 0",
            "count 12 -> 2");
    }

    private static void promise13HowManyBytes() {
        SOME.bounds("13: the first n bytes: 1 to as many as it has (40)", "law 0 #", 1, -1001, 40, -1021, -1);
        SOME.beyond("13: no such n", "law 0 #", -1, 0, -21);
        EMPTY.beyond("13: the tape is empty", "law 0 #", -1, 0, 1, 20, 160);
        Edges long200 = new Edges(R, Script.of("text b(1=1)" + " ".repeat(194)));
        long200.bounds("13: 1 to 160", "law 0 #", 1, -1001, 160, -1006, -1);
        Edges twenty = new Edges(R, Script.of("text b(f=0);b(f=10&c=100)"));
        twenty.bounds("13: it has not so many (20)", "law 0 #", 1, -1001, 20, 2, -1);
        twenty.gives("13: one less", "law 0 19 -> -1019");
    }

    private static void promise13EmptyThen() {
        run("13: empty then, with what was behind the first n, too", "text b(1=1)" + " ".repeat(60), "count 3 -> 80",
            "law 0 6 -> 1", "count 3 -> 0", "law 0 1 -> -1");
        run("13: empty then, with a FAULT, too", "text b(1=1)", "law 0 5 -> -1005", "count 3 -> 0", "law 0 1 -> -1");
        run("13: (the tape stays)", "text b(1=1)", "law 3 6 -> -1", "law -1 6 -> -1", "law 0 0 -> -1", "law 0 21 -> -1",
            "law 0 161 -> -1", "count 3 -> 20", "law 0 6 -> 1");
    }

    private static void promise13TheTextBefore() {
        run("13: a FAULT: the TEXT before stays", "deed 0 1 1 5 0 0", "deed 0 2 1 6 0 0", "law 0 b(1=1);b(2=2) -> 2",
            "law 0 s(1=1);b(1=0) -> 2", "beats 0 0 1 9 0 -> 0", "beats 0 0 1 9 1 -> 1",
            "law 0 b(1=1);s(1=0);y -> -1015", "count 10 -> 2", "beats 0 0 1 9 0 -> 0", "beats 0 0 1 9 1 -> 1");
        String emptied = States.of(() -> Offices.SOME.and("check 0 0").office());
        for (int n = 1; n <= 20; n++) {
            String call = "law 0 " + n;
            if (n != 6 && n != 13) {
                R.due("13: a FAULT changes nothing but the tape | " + call,
                    States.of(() -> Offices.SOME.and(call).office()).equals(emptied), true);
            }
        }
        run("13: a FAULT, and no TEXT before", "law 0 b(1=1);s(1=0);y -> -1015", "count 10 -> 0");
        run("13: in place of the one before: fewer CLAUSES", "deed 0 1 1 5 0 0", "deed 0 2 1 6 0 0",
            "law 0 b(1=0);b(1=1);s(1=1) -> 3", "law 0 b(1=0) -> 1", "count 10 -> 1", "beats 0 0 1 9 0 -> 0",
            "beats 0 0 1 9 1 -> 0");
    }

    private static void termsClauses() {
        for (int count = 1; count <= 12; count++) {
            run("CLAUSES (12 at most)", "law 0 " + "b(n=1);".repeat(count - 1) + "y2(1=1) -> " + count,
                "count 10 -> " + count);
        }
        String twelve = "b(n=1);".repeat(11) + "b(n=1)";
        run("4 a 13th CLAUSE, at its letter", "law 0 " + twelve + ";b(n=1) -> -4084", "count 10 -> 0");
        run("4 a 13th CLAUSE, whatever follows", "law 0 " + twelve + ";b -> -4084", "law 0 " + twelve + ";s? -> -4084",
            "law 0 " + twelve + ";y -> -4084");
        run("4 .. (if that can stand there)", "law 0 " + twelve + ";x(n=1) -> -1084", "law 0 " + twelve + ";; -> -1084",
            "law 0 " + twelve + "; -> -1084", "law 0 " + twelve + "b -> -1083");
        run("the twelfth CLAUSE counts", "deed 0 1 1 5 0 0", "deed 0 2 1 6 0 0",
            "law 0 " + "b(1=0);".repeat(11) + "b(1=1)", "beats 0 0 1 9 0 -> 1");
        for (String text : new String[] {"b(1=1);b(1=0);b(1=0)", "b(1=0);b(1=1);b(1=0)", "b(1=0);b(1=0);b(1=1)"}) {
            run("of b, s any CLAUSE will do", "deed 0 1 1 5 0 0", "deed 0 2 1 6 0 0", "law 0 " + text + " -> 3",
                "beats 0 0 1 9 0 -> 1", "beats 0 0 1 9 1 -> 0", "law 0 " + text.replace('b', 's') + " -> 3",
                "beats 0 0 1 9 1 -> 1", "beats 0 0 1 9 0 -> 0");
        }
        run("none of twelve holds", "deed 0 1 1 5 0 0", "deed 0 2 1 6 0 0", "deed 0 3 2 6 1 0",
            "law 0 " + "b(1=0);".repeat(11) + "b(1=0) -> 12", "beats 0 0 1 9 0 -> 0",
            "law 0 " + "y1(1=0);".repeat(11) + "y1(1=0) -> 12", "burdens 1 999 -> 4");
        run("the twelfth CLAUSE counts for y", "deed 0 1 1 5 1 0", "law 0 " + "y9(1=0);".repeat(11) + "y3(1=1) -> 12",
            "burdens 0 7 -> 1", "burdens 0 8 -> 0");
    }

    private static void termsOneHundredAndSixty() {
        String sound = "b(1=2|" + "n=1|".repeat(37) + "10=10)";
        R.due("the test's own text", sound.length(), 160);
        run("a TEXT of at most 160 bytes", "deed 0 1 1 5 0 0", "deed 0 2 1 6 0 0", "law 0 " + sound + " -> 1",
            "beats 0 0 1 9 0 -> 1");
        run("160 bytes, a FAULT at the last", "law 0 " + sound.substring(0, 159) + "] -> -1159");
        run("160 bytes, a FAULT at the end", "law 0 " + sound.substring(0, 159) + "1 -> -1160");
        run("161 bytes", "law 0 " + sound + "; -> -1", "count 3 -> 180", "count 10 -> 0");
    }

    /** Of a sound text each shorter beginning is read as far as it goes, whatever stands behind it on the tape. */
    private static void promise13FirstBytesAlone() {
        String text = "y12345+[n-1]*2/3%4(!(n=12&f<1|c>0)&1=1|2=2);s(x=1+1);b(u=1-1);b(p*2=4)";
        for (int n = 1; n < text.length(); n++) {
            boolean isSound = text.charAt(n) == ';';
            int clauses = (int) text.substring(0, n).chars().filter(c -> c == ';').count() + 1;
            run("13: by the first n bytes of the tape", "text " + text,
                "law 0 " + n + " -> " + (isSound ? clauses : -1000 - n));
        }
        run("13: by the first n bytes of the tape: all", "law 0 " + text + " -> 4");
    }

    /** The fortieth law of 160 bytes counts as the first did, with faults between them. */
    private static void promise13ManyInARow() {
        WidowDeeds x = Script.of("deed 0 1 1 5 0 0", "deed 0 2 1 6 0 0").office();
        for (int i = 0; i < 40; i++) {
            String sound = "b(1=2|" + "n=1|".repeat(37) + (i % 2 == 0 ? "10=10)" : "10=11)");
            R.due("13: many in a row", Script.call(x, "law 0 " + sound), 1);
            R.due("13: many in a row, it counts", x.beats(0, 0, 1, 9, 0), 1 - i % 2);
            R.due("13: many in a row, a fault", Script.call(x, "law 0 b((((([n=1"), -1008);
        }
    }

    /** Each byte there is behind each kind of beginning: it can stand there or is told as the fault. */
    private static void termsEveryByte() {
        String digits = "0123456789";
        String letters = "nfcuvpgxkwiqht";
        String factor = "[" + digits + letters;
        String reckoning = "+-*/%";
        String comparing = "<>=";
        everyByte("", "bsy");
        everyByte("b", "(");
        everyByte("s", "(");
        everyByte("y", factor);
        everyByte("y1", digits + reckoning + "(");
        everyByte("yn", reckoning + "(");
        everyByte("y[1]", reckoning + "(");
        everyByte("y[", factor);
        everyByte("b(", "!(" + factor);
        everyByte("b(!", "!(" + factor);
        everyByte("b((", "!(" + factor);
        everyByte("b(n=1&", "!(" + factor);
        everyByte("b(n=1|", "!(" + factor);
        everyByte("b(n", reckoning + comparing);
        everyByte("b(1", digits + reckoning + comparing);
        everyByte("b(12345", digits + reckoning + comparing);
        everyByte("b(n+", factor);
        everyByte("b(n-", factor);
        everyByte("b(n*", factor);
        everyByte("b(n/", factor);
        everyByte("b(n%", factor);
        everyByte("b(n=", factor);
        everyByte("b(n<", factor);
        everyByte("b(n>", factor);
        everyByte("b([n", reckoning + "]");
        everyByte("b([1", digits + reckoning + "]");
        everyByte("b([n]", reckoning + comparing);
        everyByte("b(n=f", reckoning + "&|)");
        everyByte("b(n=1", digits + reckoning + "&|)");
        everyByte("b((n=f)", "&|)");
        everyByte("b(!n=f", reckoning + "&|)");
        everyByte("b(n=f)", ";");
        everyByte("b(n=f);", "bsy");
        everyByte("y1(", "!(" + factor);
    }

    private static void everyByte(String head, String canStand) {
        for (int sign = 0; sign < 256; sign++) {
            WidowDeeds x = new WidowDeeds();
            String text = head + (char) sign;
            int answer = Texts.law(x, 0, text);
            boolean isAtIt = answer == -1000 - head.length();
            R.due("1 what can't stand there: " + sign + " behind " + head + ", answer " + answer, isAtIt,
                canStand.indexOf(sign) < 0);
        }
    }

    private static void termsEnds() {
        String[] heads = {"b", "s", "y", "y1", "y1+", "y[", "y[1", "b(", "b(!", "b((", "b([", "b(n", "b(n+", "b(n=",
            "b(n=1", "b(n=1&", "b(n=1|", "b((n=1)", "b(n=1);", "y1(n=1);y"};
        for (String head : heads) {
            run("1 what can't stand there (the end, too)", "law 0 " + head + " -> " + (-1000 - head.length()),
                "count 10 -> 0");
        }
        run("no blanks", "law 0 b(n=1 ) -> -1005", "text  b(n=1)", "law 0 7 -> -1000", "text b(n=1) ",
            "law 0 7 -> -1006");
    }

    private static void termsDigits() {
        run("a number of one to five digits", "law 0 b(1=1) -> 1", "law 0 b(99999=1) -> 1", "law 0 b(00000=1) -> 1",
            "law 0 b(n=99999) -> 1", "law 0 y99999(n=1) -> 1", "law 0 b([12345]=1) -> 1");
        run("2 a sixth digit, at it", "law 0 b(100000=1) -> -2007", "law 0 b(000001=1) -> -2007",
            "law 0 b(n=123456) -> -2009", "law 0 y123456(n=1) -> -2006", "law 0 b([123456]=1) -> -2008",
            "law 0 b(n=1234567) -> -2009", "law 0 b(12345+123456=1) -> -2013");
        run("digits of two numbers do not count together", "law 0 b(12345+12345=12345) -> 1");
    }

    private static void termsOpen() {
        String[] six = {"b((((((n=0))))))", "b(!!!!!n=0)", "b([[[[[n]]]]]=0)", "b(n=[[[[[0]]]]])",
            "y[[[[[[1]]]]]](n=0)", "b(!(!([n]=0)))", "b((((([n]=0)))))", "b(!!!!!n=0&!!!!!n=0|(((((n=0))))))",
            "y[[[[[[1]]]]]]+[[[[[[1]]]]]]((((((n=0))))))", "b((((((n=0)&(n=0)))))&(((((n=0))))))"};
        for (String text : six) {
            run("six of ( [ ! may be open in one another", "law 0 " + text + " -> 1");
        }
        run("5 a seventh of ( [ !, at it", "law 0 b(((((((n=0))))))) -> -5007", "law 0 b(!!!!!!n=0) -> -5007",
            "law 0 b([[[[[[n]]]]]]=0) -> -5007", "law 0 b(n=[[[[[[0]]]]]]) -> -5009", "law 0 b(!(!(![n]=0))) -> -5007",
            "law 0 b(!!!!!(n=0)) -> -5007", "law 0 b((((([[n]]=0))))) -> -5007", "law 0 b(((((!!n=0))))) -> -5007");
        run("the ( of the CLAUSE counts", "law 0 b(((((((n -> -5007", "law 0 s(((((((n -> -5007",
            "law 0 y1(((((((n -> -5008");
        run("a ! is open till its PIECE ends", "law 0 b(!n=0&!n=0&!n=0&!n=0&!n=0&!n=0&!n=0) -> 1",
            "law 0 b(!!!!!n=0&!!!!!!n=0) -> -5016", "law 0 b(!!!!!n=[0]) -> -5009", "law 0 b(!!!!n=[0]&!!!!!n=0) -> 1",
            "law 0 b(!!!!(n=0)&!!!!!n=0) -> 1");
        run("the E of a CLAUSE stands ahead of it", "law 0 y[[[[[[1]]]]]]((((((n=0)))))) -> 1",
            "law 0 y[[[[[[[1]]]]]]](n=0) -> -5007", "law 0 y[[[[[[1]]]]]](((((((n -> -5020");
        run("a seventh that can't stand there is a 1", "law 0 b((((((n( -> -1008", "law 0 b((((((n[ -> -1008",
            "law 0 b((((((n! -> -1008", "law 0 b!!!!!!! -> -1001");
    }

    private static void termsFirstFault() {
        run("FAULTS, the first from the left", "law 0 b(123456=((((((( -> -2007", "law 0 b(((((((123456 -> -5007",
            "law 0 b(n=1)?123456 -> -1006", "law 0 " + "b(n=1);".repeat(12) + "b(123456 -> -4084",
            "law 0 b(123456" + ";b(n=1)".repeat(13) + " -> -2007");
    }

    /** Whether deed 1 beats deed 0 by a condition. */
    private static void holds(String sentence, String condition, boolean want, String... more) {
        WidowDeeds x = Script.of(TWO_DEEDS).and(more).office();
        R.due(sentence + " | " + condition, Script.call(x, "law 0 b(" + condition + ")"), 1);
        R.due(sentence + " | " + condition, x.beats(0, 0, 1, 50, 0), want ? 1 : 0);
    }

    /** 65535*32768+32767 is the highest number of 32 bits, 65536*32768 the lowest. */
    private static void termsBits() {
        String most = "[65535*32768+32767]";
        String least = "[65536*32768]";
        String all = "All is reckoned with 32 bits, as the machine does";
        holds(all, most + ">0", true);
        holds(all, least + "<0", true);
        holds(all, most + "+1=" + least, true);
        holds(all, least + "-1=" + most, true);
        holds(all, "0-" + least + "=" + least, true);
        holds(all, most + "+" + most + "=0-2", true);
        holds(all, least + "+" + least + "=0", true);
        holds(all, most + "*2=0-2", true);
        holds(all, "65536*65536=0", true);
        holds(all, "99999*99999=14098*10*10000+65409", true);
        holds(all, "99999*99999%10000=5409", true);
        holds(all, least + "/[0-1]=" + least, true);
        holds(all, least + "%[0-1]=0", true);
        holds(all, least + "<" + most, true);
        holds(all, most + ">" + least, true);
        holds(all, "[0-7]/2=0-3", true);
        holds(all, "[0-7]%2=0-1", true);
        holds(all, "7%[0-2]=1", true);
        holds(all, "5/1=5&5%1=0&5/[0-1]=0-5&5%[0-1]=0", true);
        holds("!PIECE", "!1=1", false);
        holds("!PIECE", "!1=0", true);
        holds("!PIECE", "!1<2", false);
        holds("!PIECE", "!2<2", true);
        holds("!PIECE", "!2>1", false);
        holds("!PIECE", "!2>2", true);
        holds("!PIECE", "!!1=1", true);
        holds("!PIECE", "!!1=0", false);
        holds("!PIECE", "!(1=1|1=0)", false);
        holds("!PIECE: it ends ahead of the &", "!1=0&1=0", false);
        holds("TERMS with + or -, FACTORS with one of * / %", "2+3*4-6/2=11", true);
        holds("a FACTOR: [E]", "[2+3]*[4-2]=10", true);
        holds("from the left on", "10-3-2=5", true);
        holds("from the left on", "100/5/2*3%7=2", true);
        holds("E, one of < > =, and E: like ones", "5<5", false);
        holds("E, one of < > =, and E: like ones", "5>5", false);
        holds("E, one of < > =, and E: like ones", "5=5", true);
    }

    private static void termsDivision() {
        String refused = "what is divided by 0 is REFUSED: then a C does not hold";
        String[] conditions = {"1/0=0", "1%0=0", "0/0=0", "0%0=0", "1/0<1", "!1/0=0", "1=1/0", "1/[5-5]=0", "1%[5-5]=0",
            "1=1&1/0=0", "1=0|1/0=0", "1/0=0|1=1", "1/n=0", "(1/0=0)|1=1", "!(1/0=0)"};
        for (String condition : conditions) {
            holds(refused, condition, false);
        }
        holds("0 may be divided", "0/5=0&0%5=0", true);
        run(refused + ", another CLAUSE may", "deed 0 1 1 5 0 0", "deed 0 2 1 6 0 0", "law 0 b(1/0=0);b(1=1)",
            "beats 0 0 1 9 0 -> 1");
        run(refused + ", of s, too", "deed 0 1 1 5 0 0", "deed 0 2 1 6 0 0", "law 0 s(1/0=0)", "beats 0 0 1 9 1 -> 0",
            "law 0 s(1%0=0);s(1=1)", "beats 0 0 1 9 1 -> 1");
        run("REFUSED: an E is 0: for good", "deed 0 1 1 5 1 0", "law 0 y5/0(1=1)", "burdens 0 999 -> 1",
            "law 0 y9+5%0(1=1)", "burdens 0 999 -> 1", "law 0 y5/0(1=1);y2(1=1)", "burdens 0 999 -> 1");
        Script refusals = Script.of("deed 0 1 1 5 0 0", "deed 0 2 1 6 0 0", "law 0 b(1+[2+[3+[4+5/0]]]=1)");
        for (int times = 1; times <= 20; times++) {
            WidowDeeds x = refusals.times(times, "beats 0 0 1 # 0").and("law 0 b(7+[7+[7+[7+7]]]=35)").office();
            R.due(refused + ", again and again: " + times, x.beats(0, 0, 1, 9, 0), 1);
        }
        run("REFUSED: a C of y does not hold", "deed 0 1 1 5 1 0", "law 0 y3(1/0=0);y2(1=1)", "burdens 0 6 -> 1",
            "burdens 0 7 -> 0");
    }

    private static void termsAsMuchAsMatters() {
        String sentence = "Of a C as much is asked, from the left, as matters";
        holds(sentence, "1=1|1/0=0", true);
        holds(sentence, "1=0&1/0=0|1=1", true);
        holds(sentence, "!(1=0&1/0=0)", true);
        holds(sentence, "(1=1|1/0=0)&2=2", true);
        holds(sentence, "1=0|1=1|1/0=0", true);
        holds(sentence, "1=1&1=0&1/0=0|1=1", true);
        holds(sentence, "1=1&1/0=0|1=1", false);
        holds(sentence, "1=1|1=1&1/0=0", true);
        holds("all PIECES of a PART must hold", "1=1&1=1&1=0", false);
        holds("one of the PARTS must hold", "1=0|1=0|1=1", true);
        holds("none of the PARTS holds", "1=0|1=0|1=0", false);
    }

    private static void termsKnewAndFound() {
        String n = "n whether e's TAKER KNEW d on e's DAY";
        holds(n, "n=0", true);
        holds(n + ": heard the DAY behind", "n=0", true, "heard 3 0 15");
        holds(n + ": heard on it", "n=1", true, "heard 3 0 14");
        holds(n + ": at a WELL on it", "n=1", true, "well 14 10");
        holds(n + ": at a WELL the DAY behind", "n=0", true, "well 15 10");
        String f = "f whether d could be FOUND on e's DAY";
        holds(f + ": not ENTERED", "f=0", true);
        holds(f + ": ENTERED from it on", "f=1", true, "enter 0 14 0 0 0");
        holds(f + ": from the DAY behind it on", "f=0", true, "enter 0 15 0 0 0");
        holds(f + ": MISNAMED", "f=0", true, "enter 0 14 0 0 0", "name 0 7");
        holds(f + ": WILD", "f=0", true, "enter 0 14 0 0 0", "strip 0 5 0");
        String w = "w whether d was WILD on e's DAY";
        holds(w + ": of the FIRST OWNER", "w=0", true);
        holds(w + ": of another", "w=1", true, "strip 0 5 0");
        holds(w + ": a DEED to its GIVER ENTERED from it on", "w=0", true, "strip 0 5 0", "deed 5 1 1 3 0 0",
            "enter 2 14 0 0 0");
        holds(w + ": from the DAY behind it on", "w=1", true, "strip 0 5 0", "deed 5 1 1 3 0 0", "enter 2 15 0 0 0");
        holds("i whether d is MISNAMED", "i=0", true, "enter 0 14 0 0 0");
        holds("i whether d is MISNAMED", "i=1", true, "enter 0 14 0 0 0", "name 0 7");
        holds("i: not e", "i=0", true, "enter 1 14 0 0 0", "name 1 7");
    }

    /** The day asked about is 50. */
    private static void termsEntered() {
        String c = "c whether e is ENTERED ahead of d by the DAY asked about";
        holds(c + ": neither is", "c=0", true);
        holds(c + ": d alone", "c=0", true, "enter 0 20 0 0 0");
        holds(c + ": e alone", "c=1", true, "enter 1 20 0 0 0");
        holds(c + ": on a lower DAY", "c=1", true, "enter 1 20 0 0 0", "enter 0 21 0 0 0");
        holds(c + ": on the same DAY", "c=0", true, "enter 1 20 0 0 0", "enter 0 20 0 0 0");
        holds(c + ": on a higher DAY", "c=0", true, "enter 1 20 0 0 0", "enter 0 19 0 0 0");
        holds(c + ": on that DAY itself, d not by then", "c=1", true, "enter 1 50 0 0 0", "enter 0 51 0 0 0");
        holds(c + ": e behind that DAY", "c=0", true, "enter 1 51 0 0 0");
        holds(c + ": both behind that DAY", "c=0", true, "enter 1 51 0 0 0", "enter 0 52 0 0 0");
        holds("u whether d is ENTERED by that DAY", "u=1", true, "enter 0 50 0 0 0");
        holds("u whether d is ENTERED by that DAY", "u=0", true, "enter 0 51 0 0 0");
        holds("v whether e is ENTERED by that DAY", "v=1", true, "enter 1 50 0 0 0");
        holds("v whether e is ENTERED by that DAY", "v=0", true, "enter 1 51 0 0 0");
        holds("v: not d", "v=0&u=1", true, "enter 0 50 0 0 0");
    }

    private static void termsNumbersOfDeeds() {
        run("p what was PAID for e, g for d: 0 and 9999", "deed 0 1 1 5 0 0", "deed 0 2 1 6 0 9999",
            "law 0 b(p=9999&g=0)", "beats 0 0 1 9 0 -> 1");
        run("p what was PAID for e, g for d: 9999 and 0", "deed 0 1 1 5 0 9999", "deed 0 2 1 6 0 0",
            "law 0 b(p=0&g=9999)", "beats 0 0 1 9 0 -> 1");
        run("x DAYS from d's to e's: none", "deed 0 1 1 5 0 0", "deed 0 2 1 5 0 0", "law 0 b(x=0)",
            "beats 0 0 1 9 0 -> 1");
        run("x DAYS from d's to e's: 999", "deed 0 1 1 999 0 0", "deed 0 2 1 0 0 0", "law 0 b(x=999)",
            "beats 0 1 0 9 0 -> 1");
        for (int kind = 0; kind < 3; kind++) {
            run("k the KIND of d", "deed 0 1 1 5 " + kind + " 0", "deed 0 2 1 6 0 0", "law 0 b(k=" + kind + ")",
                "beats 0 0 1 9 0 -> 1");
        }
    }

    private static void termsDeadStripDay() {
        holds("q whether d's TAKER is dead on the DAY asked about: lives on", "q=0", true);
        holds("q: died on it", "q=1", true, "dies 2 50");
        holds("q: dies the DAY behind", "q=0", true, "dies 2 51");
        holds("q: died on DAY 0", "q=1", true, "dies 2 0");
        holds("q: not e's TAKER, nor the GIVER", "q=0", true, "dies 3 0", "dies 1 50");
        for (int s = 0; s < 8; s += 7) {
            run("h the STRIP", "deed 0 1 255 5 0 0", "deed 0 2 255 6 0 0", "law 0 b(h=" + s + ")",
                "beats " + s + " 0 1 9 0 -> 1", "beats " + (7 - s) + " 0 1 9 0 -> 0");
        }
        for (int t = 0; t < 1000; t += 999) {
            run("t the DAY asked about", "deed 0 1 1 5 0 0", "deed 0 2 1 6 0 0", "law 0 b(t=" + t + ")",
                "beats 0 0 1 " + t + " 0 -> 1", "beats 0 0 1 " + (999 - t) + " 0 -> 0");
        }
    }

    private static void termsDaysOfALane() {
        lasts("y: one DAY", "y1(1=1)", 100, 100, 101);
        lasts("y: 0: for good", "y0(1=1)", 100, 999, -1);
        lasts("y: below 0 the bound 0: for good", "y0-1(1=1)", 100, 999, -1);
        lasts("y: far below 0", "y65536*32768(1=1)", 100, 999, -1);
        lasts("y: 899", "y899(1=1)", 100, 998, 999);
        lasts("y: 900", "y900(1=1)", 100, 999, -1);
        lasts("y: 999", "y999(1=1)", 0, 998, 999);
        lasts("y: 1000, the bound", "y1000(1=1)", 0, 999, -1);
        lasts("y: beyond its bounds the bound", "y1001(1=1)", 0, 999, -1);
        lasts("y: far beyond", "y99999*20000(1=1)", 100, 999, -1);
        lasts("y: of the first CLAUSE whose C holds", "y1(1=0);y2(1=1);y3(1=1)", 100, 101, 102);
        lasts("y: none: 0", "y1(1=0);y2(1=0)", 100, 999, -1);
        lasts("y: no CLAUSE of y", "b(1=1)", 100, 999, -1);
        lasts("In y n f c v p x w are 0", "y2+n+f+c+v+p+x+w(n=0&f=0&c=0&v=0&p=0&x=0&w=0)", 100, 101, 102);
        run("In y n f c v p x w are 0, though a DEED was asked about just before", "law 0 s(p=0);y5+n+f+c+v+p+x+w(1=1)",
            "deed 0 1 1 5 1 0", "deed 0 2 1 6 0 7", "heard 2 0 5", "enter 0 5 0 0 0", "enter 1 6 0 0 0",
            "burdens 0 9 -> 1", "burdens 0 10 -> 0");
        lasts("In y g is not", "yg(1=1)", 100, 106, 107);
        lasts("In y u is not", "y2+u(u=1)", 100, 102, 103);
        lasts("In y i is not", "y2+i(i=1)", 100, 102, 103);
        lasts("In y k is not", "y2+k(k=1)", 100, 102, 103);
        lasts("In y h is not", "y2+h(h=3)", 100, 104, 105);
    }

    /** A lane of strip 3, for 7, misnamed: it lies on the land on its last day, not on the next (-1: there is none). */
    private static void lasts(String sentence, String text, int day, int last, int next) {
        WidowDeeds x = Script.of("deed 0 1 8 " + day + " 1 7", "enter 0 " + day + " 0 0 0", "name 0 5",
            "law 0 " + text).office();
        R.due(sentence + " | " + text + ": its last DAY", x.burdens(3, last), 1);
        if (next >= 0) {
            R.due(sentence + " | " + text + ": the next DAY", x.burdens(3, next), 0);
        }
        R.due(sentence + " | " + text + ": its own DAY", x.burdens(3, day), 1);
        if (day > 0) {
            R.due(sentence + " | " + text + ": ahead of its own DAY", x.burdens(3, day - 1), 0);
        }
    }

    private static void promise16() {
        Edges land = new Edges(R, Script.of("law 0 b(1=1)", "deed 0 1 255 5 0 0", "deed 0 2 255 6 0 0"));
        land.bounds("16: STRIPS 0 to 7", "beats # 0 1 9 0", 0, 1, 7, 1, -1);
        land.beyond("16: no such STRIP", "beats # 0 1 9 0", -1, 32, 64);
        land.bounds("16: DEED d", "beats 0 # 1 9 0", 0, 1, 0, 1, -1);
        land.bounds("16: DEED e", "beats 0 0 # 9 0", 1, 1, 1, 1, -1);
        land.beyond("16: no such DEEDS", "beats 0 0 # 9 0", -1, -1, 2, 40);
        land.bounds("16: DAY 0 to 999", "beats 0 0 1 # 0", 0, 1, 999, 1, -1);
        land.bounds("16: what 0 BEATS, 1 SHEDS", "beats 0 0 1 9 #", 0, 1, 1, 0, -1);
        land.refuses("16: e does not stand behind d", "beats 0 1 0 9 0 -> -1", "beats 0 0 0 9 0 -> -1",
            "beats 0 1 1 9 1 -> -1");
        EMPTY.refuses("16: no DEEDS yet", "beats 0 0 1 0 0 -> -1", "beats 0 0 0 0 0 -> -1");
        FULL.gives("16: the last of 40", "beats 0 0 39 50 0 -> 1", "beats 0 38 39 50 1 -> 1",
            "beats 0 39 40 50 0 -> -1");
    }

    private static void promise16Which() {
        Edges land = new Edges(R, Script.of("law 0 b(1=1);s(1=0)", "deed 0 1 1 5 0 0", "deed 0 2 2 6 0 0",
            "deed 0 3 3 7 0 0", "deed 0 4 1 8 1 0", "deed 0 4 1 9 2 0"));
        land.gives("16: both of the STRIP", "beats 0 0 2 9 0 -> 1", "beats 1 1 2 9 0 -> 1");
        land.refuses("16: not both of the STRIP", "beats 0 0 1 9 0 -> -1", "beats 1 0 1 9 0 -> -1",
            "beats 0 1 2 9 0 -> -1", "beats 1 0 2 9 0 -> -1", "beats 2 0 2 9 0 -> -1");
        land.gives("16: KINDS are not asked", "beats 0 3 4 9 0 -> 1", "beats 0 2 3 9 0 -> 1", "beats 0 3 4 9 1 -> 0");
        land.gives("16: a DAY ahead of theirs may be asked about", "beats 0 0 2 0 0 -> 1");
    }
}
