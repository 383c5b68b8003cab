/** The edges of promises 18 to 24: what stands, of no claims, of one, of eight. */
public final class StandEdgeTest {
    private static final Check CHECK = new Check("StandEdgeTest");
    private static final Twin NONE = new Twin(CHECK, "no claims", Some::none);
    private static final Twin ORDINARY = new Twin(CHECK, "ordinary", Some::ordinary);
    private static final Twin FULL = new Twin(CHECK, "full", Some::full);
    private static final int BAD = RiverSuit.BAD;
    /** Each leans on the one before. */
    private static final String CHAIN = "river0 9 1;river0 9 1 0;river0 9 1 1;river0 9 1 2;river0 9 1 3;river0 9 1 4;"
            + "river0 9 1 5;river0 9 1 6;";
    /** Each falls by the one before. */
    private static final String FALL = "river0 9 1;river0 9 1 unless 0;river0 9 1 unless 1;river0 9 1 unless 2;"
            + "river0 9 1 unless 3;river0 9 1 unless 4;";

    public static void main(String[] args) {
        promise18SetsOfTheClaims();
        promise18StandsByWhatStands();
        promise19Sides();
        promise19LeastAndMost();
        promise20NoSuchClaim();
        promise20ItToo();
        promise20WhatWouldStandInstead();
        promise21NoSuchClaimOrWhat();
        promise21ItToo();
        promise21NothingToReply();
        promise22What();
        promise22NoneAndAll();
        promise23NoSuchClaim();
        promise23ShortestAndLongest();
        promise24LastDay();
        promise24NotSaid();
        CHECK.close();
    }

    /** 'What STANDS of a set (bits). BAD.' */
    private static void promise18SetsOfTheClaims() {
        NONE.bad("stands", RiverSuit::stands, 0, 0);
        NONE.keeps("stands(0)", x -> x.stands(0), 0);
        ORDINARY.bad("stands", RiverSuit::stands, 0, 7);
        FULL.bad("stands", RiverSuit::stands, 0, 255);
        for (int many = 1; many <= 8; many++) {
            RiverSuit x = Told.suit(Some.alike(many));
            int all = (1 << many) - 1;
            CHECK.due("stands(0) of " + many, x.stands(0), 0);
            CHECK.due("stands of all of " + many, x.stands(all), all);
            CHECK.due("stands of the last of " + many, x.stands(1 << many - 1), 1 << many - 1);
            CHECK.due("stands of one too many of " + many, x.stands(all + 1), BAD);
        }
    }

    /** Section 2: 'one STANDS, if it is of the set, all on which it LEANS STAND, none by which it FALLS STANDS.' */
    private static void promise18StandsByWhatStands() {
        RiverSuit chain = Told.suit(CHAIN);
        for (int c = 0; c < 8; c++) {
            CHECK.due("of a chain up to " + c, chain.stands((2 << c) - 1), (2 << c) - 1);
            CHECK.due("of a chain without " + c, chain.stands(255 & ~(1 << c)), (1 << c) - 1);
        }
        RiverSuit fall = Told.suit(FALL);
        CHECK.due("every other of those that fall", fall.stands(63), 0b010101);
        CHECK.due("every other without the first", fall.stands(62), 0b101010);
        CHECK.due("those that nothing fells", fall.stands(0b101010), 0b101010);
        CHECK.due("what is said does not matter", Some.full().stands(0), 0);
    }

    /** 'The sum of YARDS of a SIDE .. BAD.'; 'a SIDE (0 river, 1 bridge, 2 ferry)'. */
    private static void promise19Sides() {
        NONE.bad("sum", RiverSuit::sum, 0, 2);
        ORDINARY.bad("sum", RiverSuit::sum, 0, 2);
        FULL.bad("sum", RiverSuit::sum, 0, 2);
        // 0 1 2 3 4 6 stand, of 1 2 3 4 5 7 yards.
        CHECK.due("sum(0)", Some.full().sum(0), 1 + 4 + 7);
        CHECK.due("sum(1)", Some.full().sum(1), 2 + 5);
        CHECK.due("sum(2)", Some.full().sum(2), 3);
    }

    private static void promise19LeastAndMost() {
        for (int side = 0; side <= 2; side++) {
            CHECK.due("sum(" + side + ") of no claims", new RiverSuit().sum(side), 0);
            RiverSuit x = Told.suit(new String[] {"river0 9 9;", "bridge0 9 9;", "ferry0 9 9;"}[side].repeat(8));
            CHECK.due("sum(" + side + ") of nothing said", x.sum(side), 0);
            for (int c = 0; c < 8; c++) {
                x.say(c);
                CHECK.due("sum(" + side + ")", x.sum(side), 9 * (c + 1));
            }
            CHECK.due("sum of another side", x.sum((side + 1) % 3), 0);
            x.yards(7, 0);
            CHECK.due("sum(" + side + ") with 0 yards", x.sum(side), 63);
        }
        RiverSuit y = Told.suit("ferry 0 9 5;ferry 0 9 7 unless 0;said 0;said 1;");
        CHECK.due("sum(2) of what stands alone", y.sum(2), 5);
        RiverSuit z = Told.suit("ferry 0 9 5;ferry 0 9 7 0;said 1;");
        CHECK.due("sum(2) of what is said and does not stand", z.sum(2), 0);
    }

    private static void promise20NoSuchClaim() {
        NONE.bad("upon", RiverSuit::upon, 0, -1);
        NONE.keeps("upon(0)", x -> x.upon(0), BAD);
        ORDINARY.bad("upon", RiverSuit::upon, 0, 2);
        FULL.bad("upon", RiverSuit::upon, 0, 7);
    }

    /** 'CLAIMS that STAND and would not, were a CLAIM not SAID (bits; it, too).' */
    private static void promise20ItToo() {
        RiverSuit x = Told.suit(CHAIN);
        for (int c = 0; c < 8; c++) {
            CHECK.due("upon(" + c + ") of what is not said", x.upon(c), 0);
        }
        for (int c = 0; c < 8; c++) {
            x.say(c);
        }
        for (int c = 0; c < 8; c++) {
            CHECK.due("upon(" + c + ") of a chain", x.upon(c), 255 & -1 << c);
        }
        x.drop(0);
        for (int c = 0; c < 8; c++) {
            CHECK.due("upon(" + c + ") of what does not stand", x.upon(c), 0);
        }
    }

    private static void promise20WhatWouldStandInstead() {
        RiverSuit x = Told.suit(FALL + "said 0;said 1;said 2;said 3;");
        CHECK.due("rule(4)", x.rule(4), 0b0101);
        CHECK.due("upon(0): 0, and 2 as 1 would stand", x.upon(0), 0b0101);
        CHECK.due("upon(1), which does not stand", x.upon(1), 0);
        CHECK.due("upon(2)", x.upon(2), 0b0100);
        CHECK.due("upon(3)", x.upon(3), 0);
    }

    private static void promise21NoSuchClaimOrWhat() {
        for (int what = 0; what <= 1; what++) {
            int w = what;
            NONE.bad("reply(c, " + w + ")", (x, c) -> x.reply(c, w), 0, -1);
            ORDINARY.bad("reply(c, " + w + ")", (x, c) -> x.reply(c, w), 0, 2);
            FULL.bad("reply(c, " + w + ")", (x, c) -> x.reply(c, w), 0, 7);
        }
        for (int c = 0; c <= 2; c++) {
            int claim = c;
            ORDINARY.bad("reply(" + c + ", what)", (x, what) -> x.reply(claim, what), 0, 1);
        }
    }

    /** 'one that does not would STAND (1; bits; it, too)'. */
    private static void promise21ItToo() {
        RiverSuit x = Told.suit(Some.alike(8));
        for (int c = 0; c < 8; c++) {
            CHECK.due("reply(" + c + ", 1): by itself", x.reply(c, 1), 1 << c);
        }
        RiverSuit y = Told.suit("river 9 9 0;river 9 9 0;river 9 9 0;river 0 0 0 unless 0 2;river 0 0 0 unless 3;"
                + "said 3;said 4;");
        CHECK.due("reply(3, 0): by those not in time", y.reply(3, 0), 0b00101);
        CHECK.due("reply(4, 1): by what fells what it falls by", y.reply(4, 1), 0b00101);
        CHECK.due("reply(1, 1)", y.reply(1, 1), 0b00010);
        CHECK.due("reply(4, 0) of what does not stand", y.reply(4, 0), 0);
        CHECK.due("reply(3, 1) of what stands", y.reply(3, 1), 0);
    }

    /** 'CLAIMS not SAID': where all are said there is no reply. */
    private static void promise21NothingToReply() {
        for (int c = 0; c < 8; c++) {
            CHECK.due("reply(" + c + ", 0) when all is said", Some.full().reply(c, 0), 0);
            CHECK.due("reply(" + c + ", 1) when all is said", Some.full().reply(c, 1), 0);
        }
        RiverSuit x = Told.suit("river 0 9 0;river 0 9 0 0;");
        CHECK.due("reply(1, 1): by one alone it does not stand", x.reply(1, 1), 0);
        x.say(1);
        CHECK.due("reply(1, 1) then", x.reply(1, 1), 0b01);
    }

    private static void promise22What() {
        NONE.bad("ever", RiverSuit::ever, 0, 1);
        ORDINARY.bad("ever", RiverSuit::ever, 0, 1);
        FULL.bad("ever", RiverSuit::ever, 0, 1);
    }

    /** 'CLAIMS that STAND in no set (what 0), in every set that has them (1; bits).' */
    private static void promise22NoneAndAll() {
        CHECK.due("ever(0) of no claims", new RiverSuit().ever(0), 0);
        CHECK.due("ever(1) of no claims", new RiverSuit().ever(1), 0);
        for (int many = 1; many <= 8; many++) {
            CHECK.due("ever(0) of " + many, Told.suit(Some.alike(many)).ever(0), 0);
            CHECK.due("ever(1) of " + many, Told.suit(Some.alike(many)).ever(1), (1 << many) - 1);
        }
        CHECK.due("ever(0) of a chain", Told.suit(CHAIN).ever(0), 0);
        CHECK.due("ever(1) of a chain", Told.suit(CHAIN).ever(1), 1);
        CHECK.due("ever(0) of those that fall", Told.suit(FALL).ever(0), 0);
        CHECK.due("ever(1) of those that fall", Told.suit(FALL).ever(1), 1);
        // 2 leans on 1, which leans on 0, and falls by 0: never; 3 falls by 2: always; 4 leans on 2: never.
        RiverSuit x = Told.suit("river0 9 1;river0 9 1 0;river0 9 1 1 unless 0;river0 9 1 unless 2;river0 9 1 2;");
        CHECK.due("ever(0)", x.ever(0), 0b10100);
        CHECK.due("ever(1)", x.ever(1), 0b01001);
        x.say(0);
        CHECK.due("ever(0) does not hang on what is said", x.ever(0), 0b10100);
    }

    private static void promise23NoSuchClaim() {
        NONE.bad("chain", RiverSuit::chain, 0, -1);
        NONE.keeps("chain(0)", x -> x.chain(0), BAD);
        ORDINARY.bad("chain", RiverSuit::chain, 0, 2);
        FULL.bad("chain", RiverSuit::chain, 0, 7);
    }

    /** 'The most CLAIMS that LEAN one on another, up to a CLAIM, it too.' */
    private static void promise23ShortestAndLongest() {
        for (int c = 0; c < 8; c++) {
            CHECK.due("chain(" + c + ") alone", Told.suit(Some.alike(8)).chain(c), 1);
            CHECK.due("chain(" + c + ")", Told.suit(CHAIN).chain(c), c + 1);
        }
        for (int c = 0; c < 6; c++) {
            CHECK.due("chain(" + c + ") of those that only fall", Told.suit(FALL).chain(c), 1);
        }
        RiverSuit x = Told.suit("river0 9 1;river0 9 1 0;river0 9 1 1;river0 9 1;river0 9 1 3 2;river0 9 1 3;");
        CHECK.due("chain(4): the longer of two", x.chain(4), 4);
        CHECK.due("chain(5)", x.chain(5), 2);
        x.leans(4, 2, false);
        CHECK.due("chain(4) by the other", x.chain(4), 2);
    }

    /** 'CLAIMS not SAID that are IN TIME on no DAY from DAY on (bits).' */
    private static void promise24LastDay() {
        CHECK.due("late() of no claims", new RiverSuit().late(), 0);
        RiverSuit x = Told.suit("river0 0 1;river0 1 1;river2 2 1;river0 8 1;river9 9 1;river0 9 1;");
        int[] due = {0, 0b000001, 0b000011, 0b000111, 0b000111, 0b000111, 0b000111, 0b000111, 0b000111, 0b001111};
        for (int d = 0; d <= 9; d++) {
            x.day(d);
            CHECK.due("late() on day " + d, x.late(), due[d]);
        }
        RiverSuit y = Told.suit("ferry0 8 1;".repeat(8) + "day 9;");
        CHECK.due("late() of all eight", y.late(), 255);
        y.day(8);
        CHECK.due("late() of none on their last day", y.late(), 0);
    }

    private static void promise24NotSaid() {
        RiverSuit x = Told.suit("river0 0 1;river0 0 1;said 0;day 9;");
        CHECK.due("late() without what is said", x.late(), 0b10);
        x.drop(0);
        CHECK.due("late() when it is said no more", x.late(), 0b11);
    }
}
