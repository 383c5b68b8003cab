/** The edges of promises 9 to 17: what is changed, and what a refused change leaves. */
public final class ChangeEdgeTest {
    private static final Check CHECK = new Check("ChangeEdgeTest");
    private static final Twin NONE = new Twin(CHECK, "no claims", Some::none);
    private static final Twin ORDINARY = new Twin(CHECK, "ordinary", Some::ordinary);
    private static final Twin FULL = new Twin(CHECK, "full", Some::full);
    private static final int BAD = RiverSuit.BAD, STATE = RiverSuit.STATE;

    public static void main(String[] args) {
        promise9NoSuchClaim();
        promise9InTimeFromItsFirstDayToItsLast();
        promise9SaidAlready();
        promise9HowManyStandThen();
        promise10NoSuchClaim();
        promise10NotSaid();
        promise10HowManyStandThen();
        promise11DaysFrom0To9();
        promise12Aim();
        promise13NoSuchClaim();
        promise13NoLesserOne();
        promise13ItFallsByIt();
        promise13WhetherItDid();
        promise14NoSuchClaim();
        promise14NoLesserOne();
        promise14ItLeansOnIt();
        promise14WhetherItDid();
        promise15YardsFrom0To9();
        promise16NoSuchClaim();
        promise16SixAtMost();
        promise17FirstOfThePlan();
        CHECK.close();
    }

    private static void promise9NoSuchClaim() {
        ORDINARY.bad("say", RiverSuit::say, 0, 2);
        FULL.bad("say", RiverSuit::say, 0, 7);
        NONE.bad("say", RiverSuit::say, 0, -1);
        NONE.keeps("say(0)", x -> x.say(0), BAD);
        RiverSuit x = Told.suit(Some.alike(8));
        CHECK.due("say(7) of eight", x.say(7), 1);
        CHECK.due("say(0) of eight", x.say(0), 2);
        CHECK.due("rule(3)", x.rule(3), 0b10000001);
    }

    /** 'STATE: .. it is not IN TIME.' */
    private static void promise9InTimeFromItsFirstDayToItsLast() {
        for (int from = 0; from <= 9; from++) {
            for (int to = from; to <= 9; to++) {
                RiverSuit x = Told.suit("bridge " + from + " " + to + " 0;");
                for (int d = 0; d <= 9; d++) {
                    x.day(d);
                    boolean in = from <= d && d <= to;
                    String call = "say(0) on day " + d + " of " + from + " to " + to;
                    CHECK.due(call, x.say(0), in ? 1 : STATE);
                    CHECK.due("said by " + call, x.rule(3), in ? 1 : 0);
                    CHECK.due("drop(0) behind " + call, x.drop(0), in ? 0 : STATE);
                }
            }
        }
        // Bridge's claim 1 is in time from day 1 to day 5.
        new Twin(CHECK, "day 0", () -> onDay(0)).keeps("say(1)", x -> x.say(1), STATE);
        new Twin(CHECK, "day 6", () -> onDay(6)).keeps("say(1)", x -> x.say(1), STATE);
    }

    private static RiverSuit onDay(int d) {
        RiverSuit x = Some.ordinary();
        x.day(d);
        return x;
    }

    /** 'STATE: it is SAID already'. */
    private static void promise9SaidAlready() {
        ORDINARY.keeps("say(0)", x -> x.say(0), STATE);
        ORDINARY.keeps("say(2)", x -> x.say(2), STATE);
        for (int c = 0; c < 8; c++) {
            int claim = c;
            FULL.keeps("say(" + c + ")", x -> x.say(claim), STATE);
        }
        RiverSuit x = Told.suit("river 0 3 0;said 0;day 9;");
        CHECK.due("said already and not in time", x.say(0), STATE);
        CHECK.due("it is said still", x.rule(3), 1);
    }

    /** 'how many STAND then': none, fewer than before, all eight. */
    private static void promise9HowManyStandThen() {
        RiverSuit x = Told.suit("river 0 9 0;river 0 9 0 unless 0;river 0 9 0 1;");
        CHECK.due("say(2), which leans on what is not said", x.say(2), 0);
        CHECK.due("say(1)", x.say(1), 2);
        CHECK.due("say(0), by which both fall", x.say(0), 1);
        RiverSuit y = Told.suit(Some.alike(8));
        for (int c = 0; c < 8; c++) {
            CHECK.due("say(" + c + ")", y.say(c), c + 1);
        }
    }

    private static void promise10NoSuchClaim() {
        ORDINARY.bad("drop", RiverSuit::drop, 0, 2);
        FULL.bad("drop", RiverSuit::drop, 0, 7);
        NONE.bad("drop", RiverSuit::drop, 0, -1);
        NONE.keeps("drop(0)", x -> x.drop(0), BAD);
    }

    /** 'STATE: it is not SAID.' */
    private static void promise10NotSaid() {
        ORDINARY.keeps("drop(1)", x -> x.drop(1), STATE);
        RiverSuit x = Told.suit(Some.alike(8));
        for (int c = 0; c < 8; c++) {
            CHECK.due("drop(" + c + ") of what is not said", x.drop(c), STATE);
        }
        x.say(7);
        CHECK.due("drop(7)", x.drop(7), 0);
        CHECK.due("drop(7) again", x.drop(7), STATE);
    }

    /** 'how many STAND then': by one less more may stand; a claim may be dropped on any day. */
    private static void promise10HowManyStandThen() {
        RiverSuit x = Told.suit("river 0 0 0;river 0 9 0 unless 0;river 0 9 0 1;said 0;said 1;said 2;day 9;");
        CHECK.due("rule(4)", x.rule(4), 0b001);
        CHECK.due("drop(0), by which two fell", x.drop(0), 2);
        CHECK.due("rule(3)", x.rule(3), 0b110);
        CHECK.due("drop(1)", x.drop(1), 0);
        CHECK.due("drop(2)", x.drop(2), 0);
        CHECK.due("rule(3) of none", x.rule(3), 0);
        RiverSuit y = Told.suit(Some.alike(8));
        for (int c = 0; c < 8; c++) {
            y.say(c);
        }
        for (int c = 7; c >= 0; c--) {
            CHECK.due("drop(" + c + ")", y.drop(c), c);
        }
    }

    /** 'DAY becomes d: what it was. BAD.'; 'DAY (0 to 9)'. */
    private static void promise11DaysFrom0To9() {
        ORDINARY.bad("day", RiverSuit::day, 0, 9);
        NONE.bad("day", RiverSuit::day, 0, 9);
        FULL.bad("day", RiverSuit::day, 0, 9);
        ORDINARY.keeps("day(2) on day 2", x -> x.day(2), 2);
        RiverSuit x = new RiverSuit();
        for (int d = 0; d <= 9; d++) {
            CHECK.due("day(" + d + ")", x.day(d), d == 0 ? 0 : d - 1);
            CHECK.due("rule(2)", x.rule(2), d);
        }
        CHECK.due("day(0) behind day 9", x.day(0), 9);
        CHECK.due("day(9)", x.day(9), 0);
    }

    /** 'THE END becomes a CLAIM: which it was. BAD.' */
    private static void promise12Aim() {
        ORDINARY.bad("aim", RiverSuit::aim, 0, 2);
        FULL.bad("aim", RiverSuit::aim, 0, 7);
        NONE.bad("aim", RiverSuit::aim, 0, -1);
        NONE.keeps("aim(0)", x -> x.aim(0), BAD);
        ORDINARY.keeps("aim(1), which it is", x -> x.aim(1), 1);
        RiverSuit x = Told.suit(Some.alike(8));
        CHECK.due("aim(0)", x.aim(0), 7);
        CHECK.due("aim(7)", x.aim(7), 0);
        CHECK.due("aim(3)", x.aim(3), 7);
        CHECK.due("rule(1)", x.rule(1), 3);
    }

    private static void promise13NoSuchClaim() {
        for (boolean is : new boolean[] {true, false}) {
            ORDINARY.bad("leans(c, 0, " + is + ")", (x, c) -> x.leans(c, 0, is), 1, 2);
            FULL.bad("leans(c, 0, " + is + ")", (x, c) -> x.leans(c, 0, is), 1, 7);
            NONE.bad("leans(c, 0, " + is + ")", (x, c) -> x.leans(c, 0, is), 0, -1);
            NONE.keeps("leans(1, 0, " + is + ")", x -> x.leans(1, 0, is), BAD);
        }
    }

    /** 'BAD (also no lesser one)'. */
    private static void promise13NoLesserOne() {
        for (boolean is : new boolean[] {true, false}) {
            ORDINARY.bad("leans(2, on, " + is + ")", (x, on) -> x.leans(2, on, is), 0, 1);
            FULL.bad("leans(7, on, " + is + ")", (x, on) -> x.leans(7, on, is), 0, 6);
            for (int c = 0; c < 8; c++) {
                for (int on = c; on < 10; on++) {
                    RiverSuit x = Told.suit(Some.alike(8));
                    CHECK.due("leans(" + c + ", " + on + ", " + is + ")", x.leans(c, on, is), BAD);
                    CHECK.due("it leans on none", x.claim(c, 4), 0);
                }
            }
        }
    }

    /** 'STATE: it would, and FALLS by it.' */
    private static void promise13ItFallsByIt() {
        ORDINARY.keeps("leans(2, 1, true)", x -> x.leans(2, 1, true), STATE);
        ORDINARY.keeps("leans(2, 1, false)", x -> x.leans(2, 1, false), 0);
        FULL.keeps("leans(7, 0, true)", x -> x.leans(7, 0, true), STATE);
        RiverSuit x = Some.ordinary();
        x.falls(2, 1, false);
        CHECK.due("leans(2, 1, true) when it does not fall", x.leans(2, 1, true), 0);
        CHECK.due("falls(2, 1, true) then", x.falls(2, 1, true), STATE);
        CHECK.due("claim(2, 4)", x.claim(2, 4), 0b10);
        CHECK.due("claim(2, 5)", x.claim(2, 5), 0);
    }

    /** 'or not: whether it did': each of eight on each lesser one. */
    private static void promise13WhetherItDid() {
        ORDINARY.keeps("leans(1, 0, true) again", x -> x.leans(1, 0, true), 1);
        for (int c = 1; c < 8; c++) {
            RiverSuit x = Told.suit(Some.alike(8));
            for (int on = 0; on < c; on++) {
                String call = "leans(" + c + ", " + on + ")";
                CHECK.due(call + " not, as it did not", x.leans(c, on, false), 0);
                CHECK.due(call, x.leans(c, on, true), 0);
                CHECK.due(call + " again", x.leans(c, on, true), 1);
                CHECK.due("claim(" + c + ", 4)", x.claim(c, 4), (2 << on) - 1);
            }
            CHECK.due("leans(" + c + ", 0) no more", x.leans(c, 0, false), 1);
            CHECK.due("claim(" + c + ", 4) then", x.claim(c, 4), (1 << c) - 2);
            CHECK.due("claim(" + c + ", 5)", x.claim(c, 5), 0);
        }
    }

    private static void promise14NoSuchClaim() {
        for (boolean is : new boolean[] {true, false}) {
            ORDINARY.bad("falls(c, 0, " + is + ")", (x, c) -> x.falls(c, 0, is), 1, 2);
            FULL.bad("falls(c, 0, " + is + ")", (x, c) -> x.falls(c, 0, is), 1, 7);
            NONE.bad("falls(c, 0, " + is + ")", (x, c) -> x.falls(c, 0, is), 0, -1);
            NONE.keeps("falls(1, 0, " + is + ")", x -> x.falls(1, 0, is), BAD);
        }
    }

    /** 'BAD (also no lesser one)'. */
    private static void promise14NoLesserOne() {
        for (boolean is : new boolean[] {true, false}) {
            ORDINARY.bad("falls(2, by, " + is + ")", (x, by) -> x.falls(2, by, is), 0, 1);
            FULL.bad("falls(7, by, " + is + ")", (x, by) -> x.falls(7, by, is), 0, 6);
            for (int c = 0; c < 8; c++) {
                for (int by = c; by < 10; by++) {
                    RiverSuit x = Told.suit(Some.alike(8));
                    CHECK.due("falls(" + c + ", " + by + ", " + is + ")", x.falls(c, by, is), BAD);
                    CHECK.due("it falls by none", x.claim(c, 5), 0);
                }
            }
        }
    }

    /** 'STATE: it would, and LEANS on it.' */
    private static void promise14ItLeansOnIt() {
        ORDINARY.keeps("falls(1, 0, true)", x -> x.falls(1, 0, true), STATE);
        ORDINARY.keeps("falls(1, 0, false)", x -> x.falls(1, 0, false), 0);
        FULL.keeps("falls(6, 2, true)", x -> x.falls(6, 2, true), STATE);
        RiverSuit x = Some.ordinary();
        x.leans(1, 0, false);
        CHECK.due("falls(1, 0, true) when it does not lean", x.falls(1, 0, true), 0);
        CHECK.due("leans(1, 0, true) then", x.leans(1, 0, true), STATE);
        CHECK.due("claim(1, 5)", x.claim(1, 5), 1);
        CHECK.due("claim(1, 4)", x.claim(1, 4), 0);
    }

    /** 'or not: whether it did': each of eight by each lesser one. */
    private static void promise14WhetherItDid() {
        ORDINARY.keeps("falls(2, 1, true) again", x -> x.falls(2, 1, true), 1);
        for (int c = 1; c < 8; c++) {
            RiverSuit x = Told.suit(Some.alike(8));
            for (int by = 0; by < c; by++) {
                String call = "falls(" + c + ", " + by + ")";
                CHECK.due(call + " not, as it did not", x.falls(c, by, false), 0);
                CHECK.due(call, x.falls(c, by, true), 0);
                CHECK.due(call + " again", x.falls(c, by, true), 1);
                CHECK.due("claim(" + c + ", 5)", x.claim(c, 5), (2 << by) - 1);
            }
            CHECK.due("falls(" + c + ", 0) no more", x.falls(c, 0, false), 1);
            CHECK.due("claim(" + c + ", 5) then", x.claim(c, 5), (1 << c) - 2);
            CHECK.due("claim(" + c + ", 4)", x.claim(c, 4), 0);
        }
    }

    /** 'YARDS of a CLAIM become v: what they were. BAD.'; 'YARDS (0 to 9)'. */
    private static void promise15YardsFrom0To9() {
        ORDINARY.bad("yards(c, 0)", (x, c) -> x.yards(c, 0), 0, 2);
        FULL.bad("yards(c, 9)", (x, c) -> x.yards(c, 9), 0, 7);
        NONE.bad("yards(c, 0)", (x, c) -> x.yards(c, 0), 0, -1);
        NONE.keeps("yards(0, 0)", x -> x.yards(0, 0), BAD);
        for (int c = 0; c <= 2; c++) {
            int claim = c;
            ORDINARY.bad("yards(" + c + ", v)", (x, v) -> x.yards(claim, v), 0, 9);
        }
        ORDINARY.keeps("yards(1, 3), as they are", x -> x.yards(1, 3), 3);
        RiverSuit x = Told.suit(Some.alike(8));
        for (int c = 0; c < 8; c += 7) {
            CHECK.due("yards(" + c + ", 0)", x.yards(c, 0), 1);
            for (int v = 1; v <= 9; v++) {
                CHECK.due("yards(" + c + ", " + v + ")", x.yards(c, v), v - 1);
            }
            CHECK.due("claim(" + c + ", 3)", x.claim(c, 3), 9);
        }
        CHECK.due("claim(1, 3) stays", x.claim(1, 3), 1);
    }

    private static void promise16NoSuchClaim() {
        ORDINARY.bad("plans", RiverSuit::plans, 0, 2);
        FULL.bad("plans", RiverSuit::plans, 0, 7);
        NONE.bad("plans", RiverSuit::plans, 0, -1);
        NONE.keeps("plans(0)", x -> x.plans(0), BAD);
    }

    /** 'how many it has. .. FULL.'; 'A PLAN: CLAIMS, one behind another (6 at most)'. */
    private static void promise16SixAtMost() {
        for (int c = 0; c < 8; c++) {
            int claim = c;
            FULL.keeps("plans(" + c + ")", x -> x.plans(claim), RiverSuit.FULL);
        }
        RiverSuit x = Told.suit(Some.alike(8));
        for (int i = 1; i <= 6; i++) {
            CHECK.due("plans of the " + i + "th", x.plans(8 - i), i);
        }
        CHECK.due("plans of the 7th", x.plans(0), RiverSuit.FULL);
        for (int i = 0; i < 6; i++) {
            CHECK.due("plan(" + i + ")", x.plan(i), 7 - i);
        }
        x.cut(5);
        CHECK.due("plans where one was cut", x.plans(7), 6);
        CHECK.due("plan(5)", x.plan(5), 7);
        CHECK.due("plans of one too many", x.plans(7), RiverSuit.FULL);
    }

    /** 'THE PLAN has its first n CLAIMS alone: how many it had. BAD.' */
    private static void promise17FirstOfThePlan() {
        NONE.bad("cut", RiverSuit::cut, 0, 0);
        ORDINARY.bad("cut", RiverSuit::cut, 0, 2);
        FULL.bad("cut", RiverSuit::cut, 0, 6);
        NONE.keeps("cut(0)", x -> x.cut(0), 0);
        ORDINARY.keeps("cut(2)", x -> x.cut(2), 2);
        FULL.keeps("cut(6)", x -> x.cut(6), 6);
        RiverSuit x = Some.full();
        CHECK.due("cut(5)", x.cut(5), 6);
        CHECK.due("cut(6) then", x.cut(6), BAD);
        CHECK.due("plan(4)", x.plan(4), 4);
        CHECK.due("plan(5)", x.plan(5), BAD);
        CHECK.due("cut(1)", x.cut(1), 5);
        CHECK.due("plan(0)", x.plan(0), 0);
        CHECK.due("plans(7) behind it", x.plans(7), 2);
        CHECK.due("plan(1)", x.plan(1), 7);
        CHECK.due("cut(0)", x.cut(0), 2);
        CHECK.due("rule(5)", x.rule(5), 0);
        CHECK.due("plan(0) of none", x.plan(0), BAD);
    }
}
