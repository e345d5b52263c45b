/** Offices at which the tests ask: with nothing in them, with something of all, and with as much as there can be. */
final class Offices {
    static final Script EMPTY = Script.of();

    /**
     * Ten deeds, three hearings, two wells, three buyers, X 777, forty bytes on the tape (the first 21 of them a law);
     * kept once with nine deeds, and changed since. Deed 0 is entered, 1 was, 3 is misnamed, 5 is forged, 6 given by
     * one who was dead; 3 is a lane and 4 a lien; 7 is of day 999 and 8 of day 0.
     */
    static final Script SOME = Script.of(
        "law 0 b(c=1);s(n=0&f=0);y30(k=1)", "law 1 b(p>g)", "law 2 b(n=0&f=0|q=1)",
        "strip 1 1 1", "strip 2 2 2", "strip 7 9 1", "dies 8 500",
        "deed 0 1 1 10 0 100", "deed 0 2 1 12 0 200", "deed 1 3 3 20 0 300", "deed 1 4 1 15 1 50",
        "deed 1 5 1 16 2 9999", "deed 2 6 4 30 0 7", "deed 8 7 4 600 0 7", "deed 9 0 128 999 0 0",
        "deed 0 9 120 0 0 1",
        "enter 0 20 0 1 2", "enter 1 25 3 3 3", "mule 2 21 4 5 13", "enter 3 15 6 7 8", "name 3 7", "forged 5 true",
        "heard 4 0 30", "heard 9 1 12", "well 25 17",
        "buyer 0 10 100 5", "buyer 1 12 200 5", "buyer 6 20 50 1", "hears 1 0 3", "hears 6 1 8",
        "keep",
        "deed 3 4 1 40 0 5", "lose 1", "heard 7 2 50", "well 60 640", "seed 777",
        "text b(1=1);s(2=2);y3(3=3)");

    /** One place is left: for a deed, a hearing, a well, and twenty bytes on the tape. */
    static final Script NEARLY_FULL = Script.of(
        "law 0 b(c=1);b(p>g);b(w=1);b(q=1);b(i=1&u=1);b(x>90);s(n=0);s(f=0);s(t<9);y9(k=1);y8(k=2);y7(h=3)",
        "law 1 b(1=1)" + ";s(2=1)".repeat(10) + ";y5(2=1)", "law 2 y1(1=2)" + ";b(1=2)".repeat(11),
        "strip 5 5 1", "strip 6 6 2")
        .times(39, "deed 0 1 1 # 0 #")
        .times(20, "enter # 39 1 2 3")
        .times(59, "heard 2 0 #")
        .times(19, "well # 1023")
        .times(9, "feed # 1 2 3 4")
        .times(8, "buyer # # 9999 99")
        .and("hears 7 0 5", "hears 3 2 0");

    /** As many of all as there can be. */
    static final Script FULL = NEARLY_FULL.and("deed 1 2 255 40 0 9999", "heard 9 39 999", "well 500 6",
        "feed 9 8 7 6 5", "keep");

    private Offices() {
    }
}
