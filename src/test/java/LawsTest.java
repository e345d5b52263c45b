/** Promises 12, 13 and 16: the tape, the texts of laws with their faults, and what each letter and sign means. */
public final class LawsTest {
    private static final Report R = new Report("LawsTest");
    private static final int NONE = WidowDeeds.NONE;

    public static void main(String[] args) {
        promise12Feed();
        promise13Bounds();
        promise13Sound();
        promise13CannotStand();
        promise13OtherFaults();
        promise13FaultKeepsTheTextBefore();
        promise16Signs();
        promise16Refused();
        promise16LettersOfBoth();
        promise16LettersOfTheOffice();
        promise16Bounds();
        promise19LettersOfDays();
        R.close();
    }

    private static void promise12Feed() {
        WidowDeeds x = new WidowDeeds();
        for (int i = 1; i <= 10; i++) {
            R.due("12: bytes", x.feed(-1, 0, 1, 2, 3), 20 * i);
        }
        R.due("12: more than 200", x.feed(0, 0, 0, 0, 0), NONE);
        R.due("12: unchanged", x.count(3), 200);
        R.due("12: the highest first", x.check(0, 50), 0);
        R.due("12: empty", x.count(3), 0);
        x.feed(0, 0, 256, 0, 0);
        R.due("12: third number", x.check(0, 5), 2);
    }

    private static void promise13Bounds() {
        WidowDeeds x = new WidowDeeds();
        Texts.feed(x, "b(c=1)");
        R.due("13: no such law", x.law(3, 6), NONE);
        R.due("13: no such law", x.law(-1, 6), NONE);
        R.due("13: no bytes", x.law(0, 0), NONE);
        R.due("13: no such number", x.law(0, -1), NONE);
        R.due("13: not so many", x.law(0, 21), NONE);
        R.due("13: not so many", x.law(0, Integer.MAX_VALUE), NONE);
        R.due("13: the tape stays", x.count(3), 20);
        R.due("13: law", x.law(0, 6), 1);
        R.due("13: empty then", x.count(3), 0);
        String long160 = "b(" + "c=1&".repeat(39) + "1)";
        R.due("13: 160 bytes, a fault at the last", Texts.law(x, 0, long160), -1000 - 159);
        String sound160 = "b(100=100&" + "c=1&".repeat(36) + "10=10)";
        R.due("13: length", sound160.length(), 160);
        R.due("13: 160 bytes", Texts.law(x, 0, sound160), 1);
        Texts.feed(x, "b(1=1)" + " ".repeat(194));
        R.due("13: 161 bytes", x.law(0, 161), NONE);
        R.due("13: the tape stays", x.count(3), 200);
        R.due("13: of 200", x.law(0, 6), 1);
        R.due("13: empty then", x.count(3), 0);
    }

    private static void promise13Sound() {
        WidowDeeds x = new WidowDeeds();
        String[] sound = {"b(n=0)", "s(n=0)", "y0(n=0)", "y99999*2-3(1=1)", "b(!n=0)", "b(!!!!!n=0)", "b((((((n=0))))))",
            "b([[[[[n]]]]]=0)", "y[[[[[[n]]]]]](n=0)", "b((((([n]=0)))))", "b(!(!([n]=0)))", "b(!n=0&!!n=0|!(n=0))",
            "b(00001=1)", "b(n+f-c*u/v%p>g&x<k|w=i&q=h&t=1)", "b(((n=0)|(n=0))&(n=0))", "b([n]+[n]=[n])",
            "b(!!!!!n=0&!!!!!n=0&(((((n=0))))))"};
        for (String text : sound) {
            R.due("13: " + text, Texts.law(x, 0, text), 1);
        }
        for (int i = 0; i < 9; i++) {
            Texts.law(x, 0, "b(((((n=");
        }
        R.due("13: what was open in a text before is not", Texts.law(x, 0, sound[6]), 1);
        R.due("13: twelve", Texts.law(x, 0, "b(n=0)" + ";s(1=1)".repeat(11)), 12);
        R.due("13: counted", x.count(10), 12);
    }

    private static void promise13CannotStand() {
        String[] upTo = {"", "b", "y", "s", "y1", "y[", "y[1", "b(", "b(n", "b(n=", "b(n=1", "b(n=1)", "b(n=1);", "b(!",
            "b((n=1)", "b((n=1", "b(n+", "b(n*", "b(n=1&", "b(n=1|", "y1+", "y1(", "b(1=1);y", "b([n]", "b([n", "b(5"};
        String[] wrong = {" ", "a", "z", "B", ";", "?", "\u0000", "\u00ff", "\u0080", "]", "~", "'"};
        for (String head : upTo) {
            for (String tail : wrong) {
                boolean stands = tail.equals(";") && head.equals("b(n=1)") || tail.equals("]") && head.equals("y[1")
                        || tail.equals("]") && head.equals("b([n");
                if (!stands) {
                    isFault(head + tail + "b(1=1)", -1000 - head.length());
                }
            }
            boolean ends = head.equals("b(n=1)");
            if (!head.isEmpty() && !ends) {
                isFault(head, -1000 - head.length());
            }
        }
        isFault("b(n)", -1003);
        isFault("b(n=1=1)", -1005);
        isFault("b(-1=1)", -1002);
        isFault("b(n=-1)", -1004);
        isFault("b(+n=1)", -1002);
        isFault("b(nn=1)", -1003);
        isFault("b(n1=1)", -1003);
        isFault("b(1n=1)", -1003);
        isFault("b(!)", -1003);
        isFault("b()", -1002);
        isFault("y(n=1)", -1001);
        isFault("b1(n=1)", -1001);
        isFault("b(n=1))", -1006);
        isFault("b((n)=1)", -1004);
        isFault("b([n=1])", -1004);
        isFault("b(n=1&&n=1)", -1006);
        isFault("b(n=1)b(n=1)", -1006);
        isFault("b(n==1)", -1004);
        isFault("b(n!=1)", -1003);
        isFault("b(b=1)", -1002);
        isFault("b(y=1)", -1002);
        isFault("b(s=1)", -1002);
        isFault("b((n=1)=1)", -1007);
        isFault("b([n](n=1))", -1005);
        isFault("b(n=1(n=1))", -1005);
        isFault(";b(n=1)", -1000);
    }

    private static void promise13OtherFaults() {
        isFault("y123456(1=1)", -2006);
        isFault("b(000000=1)", -2007);
        isFault("b(n=12345678)", -2009);
        isFault("b(n=12345 6)", -1009);
        isFault("b(((((((n=0)))))))", -5007);
        isFault("b(!!!!!!n=0)", -5007);
        isFault("b(((((!!n=0)))))", -5007);
        isFault("b((((([[n]]=0)))))", -5007);
        isFault("b(!!!!!(n=0))", -5007);
        isFault("b(!!!!![n]=0)", -5007);
        isFault("b(!(!(![n]=0)))", -5007);
        isFault("y[[[[[[[n]]]]]]](n=0)", -5007);
        isFault("b((((((n=[0]))))))", -5009);
        isFault("b((((((n!", -1008);
        isFault("b((((((n(", -1008);
        isFault("b(!!!!!n=0&!!!!!!n=0)", -5016);
        isFault("y[[[[[[n]]]]]](!!!!!(", -5020);
        String twelve = "b(n=0);".repeat(12);
        isFault(twelve + "b", -4084);
        isFault(twelve + "s(", -4084);
        isFault(twelve + "y", -4084);
        isFault(twelve + "n", -1084);
        isFault(twelve + ";", -1084);
        isFault(twelve, -1084);
        isFault(twelve.substring(0, 83) + " ", -1083);
    }

    private static void isFault(String text, int want) {
        WidowDeeds x = new WidowDeeds();
        R.due("13: " + text, Texts.law(x, 0, text), want);
        R.due("13: empty then", x.count(3), 0);
        R.due("13: no clauses", x.count(10), 0);
    }

    private static void promise13FaultKeepsTheTextBefore() {
        WidowDeeds x = twoDeeds();
        R.due("13: two", Texts.law(x, 0, "b(1=0);b(p=7)"), 2);
        R.due("13: fault", Texts.law(x, 0, "s(1=1);s(1=1);b(1=0"), -1019);
        R.due("13: the text before", x.count(10), 2);
        R.due("13: it counts", x.beats(0, 0, 1, 50, 0), 1);
        R.due("13: it alone", x.beats(0, 0, 1, 50, 1), 0);
        R.due("13: other laws are not touched", Texts.law(x, 1, "s(1=1)"), 1);
        R.due("13: it counts", x.beats(0, 0, 1, 50, 0), 1);
        R.due("13: in place of the one before", Texts.law(x, 0, "s(1=1)"), 1);
        R.due("13: gone", x.beats(0, 0, 1, 50, 0), 0);
    }

    /** Deed 0: 1 to 2 on day 10 for 5; deed 1: 1 to 3 on day 14 for 7; of strips 0 and 3, which were 1's. */
    private static WidowDeeds twoDeeds() {
        WidowDeeds x = new WidowDeeds();
        x.strip(0, 1, 0);
        x.strip(3, 1, 0);
        x.deed(1, 2, 9, 10, 0, 5);
        x.deed(1, 3, 9, 14, 0, 7);
        return x;
    }

    private static void holds(WidowDeeds x, String condition, boolean want) {
        R.due("13: sound " + condition, Texts.law(x, 0, "b(" + condition + ")"), 1);
        R.due("16: beats by " + condition, x.beats(0, 0, 1, 50, 0), want ? 1 : 0);
        R.due("16: sheds not by " + condition, x.beats(0, 0, 1, 50, 1), 0);
        R.due("13: sound " + condition, Texts.law(x, 0, "s(1=0);s(" + condition + ");y5(1=1)"), 3);
        R.due("16: sheds by " + condition, x.beats(0, 0, 1, 50, 1), want ? 1 : 0);
        R.due("16: beats not by " + condition, x.beats(0, 0, 1, 50, 0), 0);
    }

    private static void promise16Signs() {
        WidowDeeds x = twoDeeds();
        String[] so = {"1<2", "2>1", "2=2", "!1=2", "!!1=1", "1+2*3=7", "[1+2]*3=9", "10-3-2=5", "20/3/2=3", "20%7*2=12",
            "7/2=3", "[0-7]/2=0-3", "[0-7]%2=0-1", "1=1|1/0=1", "1=1&(1=1|1/0=1)", "1=0|1=1", "1=1|1=0&1=0", "1=0&1=0|1=1",
            "!(1=0&1=1)", "!1=0&1=1", "!(1=0|1=0)", "99999*99999>0"};
        for (String condition : so) {
            holds(x, condition, true);
        }
        // 99999 * 99999 is 9999800001, with 32 bits 1409865409
        holds(x, "99999*99999/10000=14098*10+6", true);
        holds(x, "99999*99999%10000=5409", true);
        holds(x, "99999*30000<0", true);
        // -2147483648 / -1 is itself with 32 bits, and leaves nothing
        holds(x, "[0-65536*32768]/[0-1]=0-65536*32768", true);
        holds(x, "[0-65536*32768]%[0-1]=0", true);
        String[] notSo = {"2<1", "1<1", "1>1", "1=2", "!1=1", "1=1&1=0", "1=0|1=0", "1=0|1=1&1=0", "!(1=1|1=0)",
            "!1=1|1=0", "10-3-2=9", "20/3/2=20", "1+2*3=9"};
        for (String condition : notSo) {
            holds(x, condition, false);
        }
    }

    private static void promise16Refused() {
        WidowDeeds x = twoDeeds();
        String[] refused = {"1/0=0", "1%0=0", "!1/0=0", "!(1/0=0)", "1/0=0|1=1", "1=1&1/0=0", "1=1&!1%0=1", "0/0=0",
            "1=0|1/[1-1]=0|1=1", "5=5/n&1=0|1/n=1|1=1"};
        for (String condition : refused) {
            holds(x, condition, false);
        }
        String[] notAsked = {"1=1|1/0=0", "!(1=0&1/0=0)", "1=0&1/0=0|1=1", "(1=1|1/0=0)&1=1"};
        for (String condition : notAsked) {
            holds(x, condition, true);
        }
        R.due("13: any clause", Texts.law(x, 0, "b(1/0=1);b(1=1)"), 2);
        R.due("16: any clause will do", x.beats(0, 0, 1, 50, 0), 1);
    }

    private static void promise16LettersOfBoth() {
        WidowDeeds x = twoDeeds();
        x.deed(2, 4, 1, 14, 2, 9);
        holds(x, "p=7", true);
        holds(x, "g=5", true);
        holds(x, "x=4", true);
        holds(x, "k=0", true);
        holds(x, "h=0", true);
        holds(x, "t=50", true);
        Texts.law(x, 0, "b(h=3&t=7)");
        R.due("16: another strip and day", x.beats(3, 0, 1, 7, 0), 1);
        x.deed(2, 5, 1, 20, 0, 1);
        Texts.law(x, 0, "b(k=2&x=6&g=9&p=1)");
        R.due("16: kinds are not asked", x.beats(0, 2, 3, 50, 0), 1);
        holds(x, "q=0", true);
        x.dies(2, 51);
        holds(x, "q=0", true);
        x.dies(2, 50);
        holds(x, "q=1", true);
        x.dies(2, NONE);
        x.dies(3, 1);
        holds(x, "q=0", true);
        holds(x, "n=0", true);
        x.heard(3, 0, 15);
        holds(x, "n=0", true);
        x.heard(3, 0, 14);
        holds(x, "n=1", true);
    }

    private static void promise16LettersOfTheOffice() {
        WidowDeeds x = twoDeeds();
        holds(x, "c=0&u=0&v=0&f=0&w=0&i=0", true);
        x.enter(1, 20, 0, 0, 0);
        holds(x, "c=1&u=0&v=1&f=0", true);
        x.enter(0, 20, 0, 0, 0);
        holds(x, "c=0&u=1&v=1&f=0", true);
        x.lose(0);
        x.enter(0, 21, 0, 0, 0);
        holds(x, "c=1&u=1&v=1&f=0", true);
        Texts.law(x, 0, "b(c=1&u=0&v=1)");
        R.due("16: on day 20", x.beats(0, 0, 1, 20, 0), 1);
        Texts.law(x, 0, "b(c=0&u=0&v=0)");
        R.due("16: on day 19", x.beats(0, 0, 1, 19, 0), 1);
        Texts.law(x, 0, "b(c=1&u=1&v=1)");
        R.due("16: on day 21", x.beats(0, 0, 1, 21, 0), 1);
        x.lose(0);
        x.enter(0, 14, 0, 0, 0);
        holds(x, "c=0&f=1&w=0&i=0", true);
        x.lose(0);
        x.enter(0, 15, 0, 0, 0);
        holds(x, "f=0", true);
        x.lose(0);
        x.enter(0, 14, 0, 0, 0);
        x.name(0, 8);
        holds(x, "f=0&i=1&u=1", true);
        x.name(0, 1);
        x.strip(0, 5, 0);
        holds(x, "f=0&w=1&i=0", true);
        int title = x.deed(5, 1, 1, 2, 0, 0);
        x.enter(title, 15, 0, 0, 0);
        holds(x, "w=1&f=0", true);
        x.lose(title);
        x.enter(title, 14, 0, 0, 0);
        holds(x, "w=0&f=1", true);
    }

    private static void promise16Bounds() {
        WidowDeeds x = twoDeeds();
        Texts.law(x, 0, "b(1=1)");
        x.deed(1, 2, 2, 3, 0, 0);
        x.deed(1, 2, 1, 10, 0, 0);
        R.due("16: beats", x.beats(0, 0, 1, 0, 0), 1);
        R.due("16: the same day, a higher number", x.beats(0, 0, 3, 5, 0), 1);
        R.due("16: the same day, a lower number", x.beats(0, 3, 0, 5, 0), NONE);
        R.due("16: a lower day", x.beats(0, 1, 3, 5, 0), NONE);
        R.due("16: itself", x.beats(0, 1, 1, 5, 0), NONE);
        R.due("16: not of the strip", x.beats(0, 2, 1, 5, 0), NONE);
        R.due("16: not of the strip", x.beats(1, 2, 1, 5, 0), NONE);
        R.due("16: no such strip", x.beats(8, 0, 1, 5, 0), NONE);
        R.due("16: no such strip", x.beats(-1, 0, 1, 5, 0), NONE);
        R.due("16: no such strip", x.beats(32, 0, 1, 5, 0), NONE);
        R.due("16: no such deed", x.beats(0, -1, 1, 5, 0), NONE);
        R.due("16: no such deed", x.beats(0, 0, 4, 5, 0), NONE);
        R.due("16: no such day", x.beats(0, 0, 1, 1000, 0), NONE);
        R.due("16: no such day", x.beats(0, 0, 1, -1, 0), NONE);
        R.due("16: no such what", x.beats(0, 0, 1, 5, 2), NONE);
        R.due("16: no such what", x.beats(0, 0, 1, 5, -1), NONE);
        x.strip(0, 1, 1);
        R.due("16: a law without a text", x.beats(0, 0, 1, 5, 0), 0);
    }

    /** A lane of day 100 lasts till day 100 + y; the day asked about is 100 + y - 1, then 100 + y. */
    private static void promise19LettersOfDays() {
        lasts("y5(1=1)", 5);
        lasts("y[2+3]*4(1=1)", 20);
        lasts("y7(1=0);y8(1=1);y9(1=1)", 8);
        lasts("y7(1/0=0);y8(1=1)", 8);
        lasts("b(1=1);s(1=0);y8(1=1)", 8);
        lasts("y5+n+f+c+v+p+x+w(n+f+c+v+p+x+w=0)", 5);
        lasts("y899(1=1)", 899);
        lasts("y0(1=1)", 0);
        lasts("y3-4(1=1)", 0);
        lasts("y5/0(1=1)", 0);
        lasts("y5%0(1=1);y6(1=1)", 0);
        lasts("y7(1=0)", 0);
        lasts("b(1=0)", 0);
        lasts("y1001(1=1)", 1000);
        lasts("y99999*99999(1=1)", 1000);
        lasts("yg(1=1)", 40);
        lasts("yk+20(1=1)", 21);
        lasts("yh+20(1=1)", 26);
        lasts("yu*10+5(1=1)", 15);
        lasts("yi*10+5(1=1)", 5);
        lasts("yq*10+5(1=1)", 5);
        lasts("y120-t+t(t>90)", 120);
        WidowDeeds z = new WidowDeeds();
        z.deed(0, 1, 1, 10, 1, 0);
        z.deed(0, 2, 1, 12, 0, 7);
        z.enter(1, 12, 0, 0, 0);
        z.heard(2, 0, 10);
        Texts.law(z, 0, "y5+n+f+c+v+p+x+w(1=1);s(p=0)");
        R.due("19: a later deed is no part of it", z.burdens(0, 14), 1);
        R.due("19: a later deed is no part of it", z.burdens(0, 15), 0);
        WidowDeeds x = new WidowDeeds();
        x.deed(0, 1, 1, 100, 1, 0);
        x.enter(0, 110, 0, 0, 0);
        x.name(0, 4);
        x.dies(1, 120);
        Texts.law(x, 0, "y1(u=1&i=1&q=1)");
        R.due("19: ahead of its entry", x.burdens(0, 105), 1);
        R.due("19: behind it", x.burdens(0, 119), 1);
        R.due("19: its taker is dead", x.burdens(0, 120), 0);
    }

    private static void lasts(String text, int days) {
        WidowDeeds x = new WidowDeeds();
        x.strip(6, 0, 2);
        x.deed(0, 1, 64, 100, 1, 40);
        x.enter(0, 100, 0, 0, 0);
        R.due("13: sound " + text, Texts.law(x, 2, text) > 0 ? 1 : 0, 1);
        if (days > 0 && days < 900) {
            R.due("19: lasts by " + text, x.burdens(6, 99 + days), 1);
            R.due("19: not longer by " + text, x.burdens(6, 100 + days), 0);
        } else {
            R.due("19: lasts by " + text, x.burdens(6, 999), 1);
        }
        R.due("19: not ahead of its day", x.burdens(6, 99), 0);
    }
}
