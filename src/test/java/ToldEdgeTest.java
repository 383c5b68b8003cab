/** The edges of promises 6 to 8: what was told, of none, of some, of as many as may be. */
public final class ToldEdgeTest {
    private static final Check CHECK = new Check("ToldEdgeTest");
    private static final Twin NONE = new Twin(CHECK, "no claims", Some::none);
    private static final Twin ORDINARY = new Twin(CHECK, "ordinary", Some::ordinary);
    private static final Twin FULL = new Twin(CHECK, "full", Some::full);

    public static void main(String[] args) {
        promise6WhatFrom0To5();
        promise6OfNone();
        promise6OfAllThatMayBe();
        promise6TheEndIsNoneWithoutClaims();
        promise7NoSuchClaim();
        promise7WhatFrom0To6();
        promise7EachOfEight();
        promise7StandsOrNot();
        promise8OfThePlan();
        CHECK.close();
    }

    /** '0 CLAIMS .. 5 how many THE PLAN has. BAD.' */
    private static void promise6WhatFrom0To5() {
        ORDINARY.bad("rule", RiverSuit::rule, 0, 5);
        NONE.bad("rule", RiverSuit::rule, 0, 5);
        long[] due = {3, 1, 2, 0b101, 0b101, 2};
        for (int what = 0; what <= 5; what++) {
            CHECK.due("rule(" + what + ")", Some.ordinary().rule(what), due[what]);
        }
    }

    private static void promise6OfNone() {
        long[] due = {0, RiverSuit.NONE, 0, 0, 0, 0};
        for (int what = 0; what <= 5; what++) {
            CHECK.due("rule(" + what + ") of none", new RiverSuit().rule(what), due[what]);
        }
    }

    private static void promise6OfAllThatMayBe() {
        // 4 leans on 0, 5 falls by 1, 6 leans on 0 and 2, 7 falls by 0.
        long[] due = {8, 7, 9, 255, 0b01011111, 6};
        for (int what = 0; what <= 5; what++) {
            CHECK.due("rule(" + what + ") when full", Some.full().rule(what), due[what]);
        }
    }

    /** '1 THE END (NONE: there are none)'. */
    private static void promise6TheEndIsNoneWithoutClaims() {
        RiverSuit x = Told.suit("river 0 0 0;");
        CHECK.due("rule(1) of one", x.rule(1), 0);
        x.text();
        CHECK.due("rule(1) of none again", x.rule(1), RiverSuit.NONE);
        Told.tell(x, "day 3;");
        CHECK.due("rule(1) of a day alone", x.rule(1), RiverSuit.NONE);
    }

    private static void promise7NoSuchClaim() {
        for (int what = -1; what <= 7; what++) {
            int w = what;
            ORDINARY.bad("claim(c, " + w + ")", (x, c) -> x.claim(c, w), 0, 2);
        }
        FULL.bad("claim(c, 6)", (x, c) -> x.claim(c, 6), 0, 7);
        NONE.bad("claim(c, 0)", (x, c) -> x.claim(c, 0), 0, -1);
        NONE.keeps("claim(0, 0)", x -> x.claim(0, 0), RiverSuit.BAD);
    }

    private static void promise7WhatFrom0To6() {
        for (int c = 0; c <= 2; c++) {
            int claim = c;
            ORDINARY.bad("claim(" + c + ", what)", (x, what) -> x.claim(claim, what), 0, 6);
        }
        FULL.bad("claim(7, what)", (x, what) -> x.claim(7, what), 0, 6);
    }

    private static void promise7EachOfEight() {
        RiverSuit x = Some.full();
        long[] leans = {0, 0, 0, 0, 1, 0, 0b101, 0};
        long[] falls = {0, 0, 0, 0, 0, 0b10, 0, 1};
        long[] stands = {1, 1, 1, 1, 1, 0, 1, 0};
        for (int c = 0; c < 8; c++) {
            CHECK.due("claim(" + c + ", 0)", x.claim(c, 0), c % 3);
            CHECK.due("claim(" + c + ", 1)", x.claim(c, 1), 0);
            CHECK.due("claim(" + c + ", 2)", x.claim(c, 2), 9);
            CHECK.due("claim(" + c + ", 3)", x.claim(c, 3), c + 1);
            CHECK.due("claim(" + c + ", 4)", x.claim(c, 4), leans[c]);
            CHECK.due("claim(" + c + ", 5)", x.claim(c, 5), falls[c]);
            CHECK.due("claim(" + c + ", 6)", x.claim(c, 6), stands[c]);
        }
    }

    /** '6 whether it STANDS (1, 0)': 'if it is of the set, all on which it LEANS STAND, none by which ..'. */
    private static void promise7StandsOrNot() {
        RiverSuit x = Told.suit("river 0 9 0;river 0 9 0;river 0 9 0 0 1;river 0 9 0 unless 0 1;");
        CHECK.due("not said: does not stand", x.claim(3, 6), 0);
        x.say(3);
        CHECK.due("said, falls by none that stands", x.claim(3, 6), 1);
        x.say(2);
        CHECK.due("leans on none that stands", x.claim(2, 6), 0);
        x.say(0);
        CHECK.due("one of two on which it leans", x.claim(2, 6), 0);
        CHECK.due("one of two by which it falls", x.claim(3, 6), 0);
        x.say(1);
        CHECK.due("both on which it leans", x.claim(2, 6), 1);
        CHECK.due("both by which it falls", x.claim(3, 6), 0);
        x.drop(0);
        CHECK.due("the other by which it falls", x.claim(3, 6), 0);
        RiverSuit y = Told.suit("river 0 9 0;river 0 9 0 0;river 0 9 0 unless 1;said 1;said 2;");
        CHECK.due("falls by one that is said but does not stand", y.claim(2, 6), 1);
        RiverSuit z = Told.suit("river 0 9 0;river 0 9 0 0;river 0 9 0 1;said 1;said 2;");
        CHECK.due("leans on one that is said but does not stand", z.claim(2, 6), 0);
    }

    /** 'CLAIM i of THE PLAN. BAD.' */
    private static void promise8OfThePlan() {
        NONE.bad("plan", RiverSuit::plan, 0, -1);
        NONE.keeps("plan(0)", x -> x.plan(0), RiverSuit.BAD);
        ORDINARY.bad("plan", RiverSuit::plan, 0, 1);
        CHECK.due("plan(0)", Some.ordinary().plan(0), 2);
        CHECK.due("plan(1)", Some.ordinary().plan(1), 0);
        FULL.bad("plan", RiverSuit::plan, 0, 5);
        for (int i = 0; i < 6; i++) {
            CHECK.due("plan(" + i + ") when full", Some.full().plan(i), i);
        }
        RiverSuit x = Told.suit(Some.THREE);
        CHECK.due("plan(0) of claims without a plan", x.plan(0), RiverSuit.BAD);
        RiverSuit y = Told.suit(Some.THREE + "plan 2;plan 2;plan 2;");
        y.cut(1);
        CHECK.due("plan(0) behind cut(1)", y.plan(0), 2);
        CHECK.due("plan(1) behind cut(1)", y.plan(1), RiverSuit.BAD);
    }
}
