/** The edges of promises 25 to 28 and 31: the fewest claims, what is LOST of a TRIAL, floods, shares. */
public final class EndEdgeTest {
    private static final Check CHECK = new Check("EndEdgeTest");
    private static final Twin NO_CLAIMS = new Twin(CHECK, "no claims", Some::none);
    private static final Twin ORDINARY = new Twin(CHECK, "ordinary", Some::ordinary);
    private static final Twin FULL = new Twin(CHECK, "full", Some::full);
    private static final int BAD = RiverSuit.BAD, STATE = RiverSuit.STATE, NONE = RiverSuit.NONE;
    private static final String CHAIN = "river0 9 1;river0 9 1 0;river0 9 1 1;river0 9 1 2;river0 9 1 3;river0 9 1 4;"
            + "river0 9 1 5;river0 9 1 6;";

    public static void main(String[] args) {
        promise25And26What();
        promise25None();
        promise25FromNoneToEight();
        promise25TheLeastSet();
        promise26None();
        promise26FromNoneToSeven();
        promise26TheLeastSet();
        promise27What();
        promise27NoClaimsAndNoPlan();
        promise27LostIfNotInTime();
        promise27LostIfSaidAlready();
        promise27ALostOneTakesItsDay();
        promise27LostBehindDay9();
        promise27WhatStandsInTheEnd();
        promise28Odds();
        promise28NoClaims();
        promise28NoneAndAllOfTen();
        promise28OnEachDay();
        promise28BehindDay9();
        promise31NoSuchClaimOrWhat();
        promise31NothingBeingSaidBefore();
        promise31OfOneAndOfEight();
        CHECK.close();
    }

    private static void promise25And26What() {
        NO_CLAIMS.bad("few", RiverSuit::few, 0, 1);
        ORDINARY.bad("few", RiverSuit::few, 0, 1);
        FULL.bad("few", RiverSuit::few, 0, 1);
        NO_CLAIMS.bad("foil", RiverSuit::foil, 0, 1);
        ORDINARY.bad("foil", RiverSuit::foil, 0, 1);
        FULL.bad("foil", RiverSuit::foil, 0, 1);
    }

    /** 'NONE: by none (also where there are no CLAIMS).' */
    private static void promise25None() {
        few(new RiverSuit(), NONE, NONE);
        few(Told.suit("river 0 9 1;river 0 9 1 unless 0;said 0;"), NONE, NONE);
        few(Told.suit("river 0 9 1;river 0 9 1 0;river 0 9 1 1 unless 0;"), NONE, NONE);
        few(Some.full(), NONE, NONE);
    }

    /** 'The fewest CLAIMS more to be SAID (IN TIME or not) so that THE END STANDS'. */
    private static void promise25FromNoneToEight() {
        RiverSuit x = Told.suit(CHAIN);
        for (int c = 0; c < 8; c++) {
            few(x, 8 - c, 255 & -1 << c);
            x.say(c);
        }
        few(x, 0, 0);
        few(Told.suit("river 0 3 1;day 9;"), 1, 1);
        few(Told.suit("river 7 9 1;day 0;"), 1, 1);
        few(Told.suit(Some.alike(8) + "end 0;"), 1, 1);
        few(Told.suit(Some.alike(8)), 1, 128);
    }

    /** 'the least set of so many (1; bits)', of those more alone. */
    private static void promise25TheLeastSet() {
        // 3 is felled by 0 or 1 or 2; the end falls by 3.
        String four = "river0 9 1;river0 9 1;river0 9 1;river0 9 1 unless 0 1 2;river0 9 1 unless 3;said 3;";
        few(Told.suit(four), 2, 0b10001);
        few(Told.suit(four + "said 4;"), 1, 0b00001);
        few(Told.suit(four + "said 4;said 0;"), 0, 0);
        RiverSuit x = Told.suit(four + "said 4;");
        x.falls(3, 0, false);
        few(x, 1, 0b00010);
        x.falls(3, 1, false);
        few(x, 1, 0b00100);
        // One of a greater number or two of lesser ones: the fewest go first.
        few(Told.suit("river0 9 1;river0 9 1 0;river0 9 1;river0 9 1 unless 1 2;river0 9 1 unless 3;said 3;said 4;"),
                1, 0b00100);
    }

    private static void promise26None() {
        foil(new RiverSuit(), NONE, NONE);
        foil(Told.suit("river 0 9 1;said 0;"), NONE, NONE);
        foil(Told.suit("river 0 9 1;river 0 9 1;said 1;"), NONE, NONE);
    }

    private static void promise26FromNoneToSeven() {
        foil(Told.suit("river 0 9 1;"), 0, 0);
        foil(Some.full(), 0, 0);
        // The end falls by 6, which is the last of a chain of seven.
        String seven = "river0 9 1;river0 9 1 0;river0 9 1 1;river0 9 1 2;river0 9 1 3;river0 9 1 4;river0 9 1 5;"
                + "river0 9 1 unless 6;said 7;";
        RiverSuit x = Told.suit(seven);
        for (int c = 0; c < 7; c++) {
            foil(x, 7 - c, 127 & -1 << c);
            x.say(c);
        }
        foil(x, 0, 0);
        foil(Told.suit("river 0 3 1;river 0 9 1 unless 0;said 1;day 9;"), 1, 1);
    }

    private static void promise26TheLeastSet() {
        RiverSuit x = Told.suit("river0 9 1;river0 9 1;river0 9 1;river0 9 1 unless 0 1 2;said 3;");
        foil(x, 1, 0b0001);
        x.falls(3, 0, false);
        foil(x, 1, 0b0010);
        x.falls(3, 1, false);
        foil(x, 1, 0b0100);
        x.falls(3, 2, false);
        foil(x, NONE, NONE);
    }

    private static void few(RiverSuit x, int many, int set) {
        CHECK.due("few(0)", x.few(0), many);
        CHECK.due("few(1)", x.few(1), set);
    }

    private static void foil(RiverSuit x, int many, int set) {
        CHECK.due("foil(0)", x.foil(0), many);
        CHECK.due("foil(1)", x.foil(1), set);
    }

    private static void promise27What() {
        NO_CLAIMS.bad("trial", RiverSuit::trial, 0, 3);
        ORDINARY.bad("trial", RiverSuit::trial, 0, 3);
        FULL.bad("trial", RiverSuit::trial, 0, 3);
    }

    /** 'NONE: none is [LOST]'; 'NONE (what 1): there are no CLAIMS.' */
    private static void promise27NoClaimsAndNoPlan() {
        trial(new RiverSuit(), 0, NONE, NONE, 0);
        trial(Told.suit("day 9;"), 0, NONE, NONE, 0);
        trial(Told.suit("river 0 9 1;"), 0, 0, NONE, 0);
        trial(Told.suit("river 0 9 1;said 0;"), 1, 1, NONE, 0);
    }

    /** 'if it is IN TIME': the day before, its first day, its last day, the day behind. */
    private static void promise27LostIfNotInTime() {
        for (int d = 0; d <= 9; d++) {
            RiverSuit x = Told.suit("river 3 5 1;plan 0;day " + d + ";");
            boolean in = 3 <= d && d <= 5;
            trial(x, in ? 1 : 0, in ? 1 : 0, in ? NONE : 0, in ? 0 : 1);
        }
        // Of two claims 0 9 the one of the second day comes on day 9, and not behind it.
        trial(Told.suit("river 0 9 1;river 9 9 1;plan 0;plan 1;day 8;"), 3, 1, NONE, 0);
        trial(Told.suit("river 0 9 1;river 9 9 1;plan 0;plan 1;day 9;"), 1, 0, 1, 1);
        trial(Told.suit("river 0 9 1;river 9 9 1;plan 0;plan 1;day 7;"), 1, 0, 1, 1);
    }

    /** 'and not said yet': said before the TRIAL, said in it. */
    private static void promise27LostIfSaidAlready() {
        trial(Told.suit("river 0 9 1;said 0;plan 0;"), 1, 1, 0, 1);
        trial(Told.suit("river 0 9 1;plan 0;plan 0;"), 1, 1, 1, 1);
        trial(Told.suit("river 0 9 1;" + "plan 0;".repeat(6)), 1, 1, 1, 5);
        trial(Told.suit("river 0 9 1;river 0 9 1;said 1;plan 0;plan 1;plan 0;"), 3, 1, 1, 2);
    }

    /** 'on each DAY .. the next CLAIM of THE PLAN is said ..; else that one is LOST'. */
    private static void promise27ALostOneTakesItsDay() {
        trial(Told.suit("river 0 0 1;river 1 1 1;plan 1;plan 1;"), 2, 1, 0, 1);
        trial(Told.suit("river 0 0 1;river 1 1 1;plan 1;plan 0;"), 0, 0, 0, 2);
        trial(Told.suit("river 0 0 1;river 1 1 1;plan 0;plan 1;"), 3, 1, NONE, 0);
        trial(Told.suit("river 5 5 1;plan 0;plan 0;plan 0;plan 0;plan 0;plan 0;"), 1, 1, 0, 5);
        trial(Told.suit("river 6 6 1;plan 0;plan 0;plan 0;plan 0;plan 0;plan 0;"), 0, 0, 0, 6);
    }

    /** 'till THE PLAN or the DAYS are at their end (those left are LOST, too).' */
    private static void promise27LostBehindDay9() {
        for (int d = 0; d <= 9; d++) {
            RiverSuit x = Told.suit(Some.alike(6) + "plan0;plan1;plan2;plan3;plan4;plan5;day" + d + ";");
            int days = Math.min(6, 10 - d);
            trial(x, (1 << days) - 1, days == 6 ? 1 : 0, days == 6 ? NONE : days, 6 - days);
        }
    }

    private static void promise27WhatStandsInTheEnd() {
        trial(Told.suit("river 0 9 1;river 0 9 1 unless 0;plan 1;plan 0;"), 1, 0, NONE, 0);
        trial(Told.suit("river 0 9 1;river 0 9 1 0;plan 1;plan 0;"), 3, 1, NONE, 0);
        trial(Told.suit("river 0 9 1;river 0 9 1 0;plan 1;said 0;"), 3, 1, NONE, 0);
        trial(Told.suit("river 0 9 1;river 0 9 1 0;plan 1;end 0;"), 0, 0, NONE, 0);
        trial(Told.suit(Some.alike(8) + "plan0;plan7;said 3;"), 0b10001001, 1, NONE, 0);
    }

    private static void trial(RiverSuit x, int standing, int end, int first, int lost) {
        CHECK.due("trial(0)", x.trial(0), standing);
        CHECK.due("trial(1)", x.trial(1), end);
        CHECK.due("trial(2)", x.trial(2), first);
        CHECK.due("trial(3)", x.trial(3), lost);
    }

    /** 'by v out of ten (0 to 10) .. 0, 1. BAD'. */
    private static void promise28Odds() {
        for (int what = 0; what <= 1; what++) {
            int w = what;
            NO_CLAIMS.bad("luck(v, " + w + ")", (x, v) -> x.luck(v, w), 0, 10);
            ORDINARY.bad("luck(v, " + w + ")", (x, v) -> x.luck(v, w), 0, 10);
        }
        for (int v = 0; v <= 10; v += 10) {
            int odds = v;
            NO_CLAIMS.bad("luck(" + v + ", what)", (x, what) -> x.luck(odds, what), 0, 1);
            ORDINARY.bad("luck(" + v + ", what)", (x, what) -> x.luck(odds, what), 0, 1);
        }
    }

    /** 'STATE: there are no CLAIMS.' */
    private static void promise28NoClaims() {
        for (int v = 0; v <= 10; v++) {
            CHECK.due("luck(" + v + ", 0) of no claims", new RiverSuit().luck(v, 0), STATE);
            CHECK.due("luck(" + v + ", 1) of no claims", new RiverSuit().luck(v, 1), STATE);
        }
    }

    private static void promise28NoneAndAllOfTen() {
        RiverSuit x = Told.suit("river 0 9 1;plan 0;");
        long[][] due = {{1, 1}, {9, 10}, {4, 5}, {7, 10}, {3, 5}, {1, 2}, {2, 5}, {3, 10}, {1, 5}, {1, 10}, {0, 1}};
        for (int v = 0; v <= 10; v++) {
            luck(x, v, due[v][0], due[v][1]);
        }
        x.cut(0);
        luck(x, 5, 0, 1);
        x.say(0);
        luck(x, 0, 1, 1);
        luck(x, 10, 1, 1);
        // Each FLOOD may help, too: the end falls by what comes.
        RiverSuit y = Told.suit("river 0 9 1;river 0 9 1 unless 0;said 1;plan 0;");
        luck(y, 0, 0, 1);
        luck(y, 4, 2, 5);
        luck(y, 10, 1, 1);
    }

    /** 'FLOODS on each DAY of a TRIAL .. by itself'; 'the CLAIM of that DAY is LOST': a later day may say it. */
    private static void promise28OnEachDay() {
        RiverSuit x = Told.suit("river 0 9 1;" + "plan 0;".repeat(6));
        luck(x, 10, 0, 1);
        luck(x, 5, 63, 64);
        luck(x, 1, 999999, 1000000);
        luck(x, 9, 468559, 1000000);
        luck(x, 0, 1, 1);
        RiverSuit y = Told.suit(CHAIN + "end 5;plan 0;plan 1;plan 2;plan 3;plan 4;plan 5;");
        luck(y, 0, 1, 1);
        luck(y, 1, 531441, 1000000);
        luck(y, 9, 1, 1000000);
        luck(y, 10, 0, 1);
    }

    /** Behind day 9 those left are LOST, whether it floods or not. */
    private static void promise28BehindDay9() {
        RiverSuit x = Told.suit("river 0 9 1;" + "plan 0;".repeat(6) + "day 9;");
        luck(x, 5, 1, 2);
        luck(x, 1, 9, 10);
        x.day(8);
        luck(x, 5, 3, 4);
        x.day(4);
        luck(x, 5, 63, 64);
        x.day(5);
        luck(x, 5, 31, 32);
        RiverSuit y = Told.suit("river 9 9 1;plan 0;plan 0;day 9;");
        luck(y, 3, 7, 10);
        y.day(8);
        luck(y, 3, 7, 10);
        y.day(7);
        luck(y, 3, 0, 1);
    }

    private static void luck(RiverSuit x, int v, long top, long bottom) {
        CHECK.due("luck(" + v + ", 0)", x.luck(v, 0), top);
        CHECK.due("luck(" + v + ", 1)", x.luck(v, 1), bottom);
    }

    private static void promise31NoSuchClaimOrWhat() {
        for (int what = 0; what <= 1; what++) {
            int w = what;
            NO_CLAIMS.bad("share(c, " + w + ")", (x, c) -> x.share(c, w), 0, -1);
            ORDINARY.bad("share(c, " + w + ")", (x, c) -> x.share(c, w), 0, 2);
            FULL.bad("share(c, " + w + ")", (x, c) -> x.share(c, w), 0, 7);
        }
        NO_CLAIMS.keeps("share(0, 0)", x -> x.share(0, 0), BAD);
        for (int c = 0; c <= 2; c++) {
            int claim = c;
            ORDINARY.bad("share(" + c + ", what)", (x, what) -> x.share(claim, what), 0, 1);
        }
    }

    /** 'in each order alike (nothing being SAID before)', nor does DAY matter. */
    private static void promise31NothingBeingSaidBefore() {
        String text = "river 0 0 1;bridge 5 5 1;river 9 9 1 0 unless 1;";
        for (String rest : new String[] {"", "said 0;", "said 1;said 2;", "said 0;said 1;said 2;day 9;"}) {
            shares(text + rest, 1, 6, -1, 3, 1, 6);
        }
    }

    private static void promise31OfOneAndOfEight() {
        shares("river 0 0 0;", 1, 1);
        shares(CHAIN, 1, 8, 1, 8, 1, 8, 1, 8, 1, 8, 1, 8, 1, 8, 1, 8);
        shares(Some.alike(8), 0, 1, 0, 1, 0, 1, 0, 1, 0, 1, 0, 1, 0, 1, 1, 1);
        shares(Some.alike(8) + "end 0;", 1, 1, 0, 1, 0, 1, 0, 1, 0, 1, 0, 1, 0, 1, 0, 1);
        // The end comes first in one order of eight; each of the others ends that in one of seven.
        shares(Some.alike(7) + "ferry0 9 1 unless 0 1 2 3 4 5 6;",
                -1, 56, -1, 56, -1, 56, -1, 56, -1, 56, -1, 56, -1, 56, 1, 8);
        shares("river 0 0 0;river 0 0 0 0;river 0 0 0 1 unless 0;", 0, 1, 0, 1, 0, 1);
    }

    private static void shares(String text, long... due) {
        RiverSuit x = Told.suit(text);
        for (int i = 0; i < due.length; i++) {
            CHECK.due("share(" + i / 2 + ", " + i % 2 + ") of " + text, x.share(i / 2, i % 2), due[i]);
        }
    }
}
