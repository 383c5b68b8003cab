/** Promises 9 to 17: what is changed. */
public final class ChangeTest {
    private static final Check CHECK = new Check("ChangeTest");
    private static final String THREE = "river 0 9 2;bridge 1 5 3 0;ferry 2 2 1 unless 1;";

    public static void main(String[] args) {
        promise9Say();
        promise10Drop();
        promise11Day();
        promise12Aim();
        promise13Leans();
        promise14Falls();
        promise15Yards();
        promise16Plans();
        promise17Cut();
        CHECK.close();
    }

    private static void promise9Say() {
        RiverSuit x = Told.suit(THREE);
        CHECK.due("say(-1)", x.say(-1), RiverSuit.BAD);
        CHECK.due("say(3)", x.say(3), RiverSuit.BAD);
        CHECK.due("say(1) too early", x.say(1), RiverSuit.STATE);
        x.day(6);
        CHECK.due("say(1) too late", x.say(1), RiverSuit.STATE);
        CHECK.due("nothing said", x.rule(3), 0);
        x.day(5);
        CHECK.due("say(1) on its last day", x.say(1), 0);
        CHECK.due("say(1) again", x.say(1), RiverSuit.STATE);
        CHECK.due("say(0)", x.say(0), 2);
        x.day(2);
        CHECK.due("say(2), which falls", x.say(2), 2);
        CHECK.due("rule(3)", x.rule(3), 7);
        x.drop(1);
        x.day(1);
        CHECK.due("say(1) on its first day", x.say(1), 2);
        CHECK.due("say(0) of none", new RiverSuit().say(0), RiverSuit.BAD);
    }

    private static void promise10Drop() {
        RiverSuit x = Told.suit(THREE + "said 0;said 1;said 2;");
        CHECK.due("drop(-1)", x.drop(-1), RiverSuit.BAD);
        CHECK.due("drop(3)", x.drop(3), RiverSuit.BAD);
        CHECK.due("drop(0)", x.drop(0), 1);
        CHECK.due("rule(3)", x.rule(3), 6);
        CHECK.due("drop(0) again", x.drop(0), RiverSuit.STATE);
        CHECK.due("drop(2)", x.drop(2), 0);
        CHECK.due("rule(3)", x.rule(3), 2);
    }

    private static void promise11Day() {
        RiverSuit x = new RiverSuit();
        CHECK.due("day(-1)", x.day(-1), RiverSuit.BAD);
        CHECK.due("day(10)", x.day(10), RiverSuit.BAD);
        CHECK.due("day(9)", x.day(9), 0);
        CHECK.due("day(0)", x.day(0), 9);
        CHECK.due("day(3)", x.day(3), 0);
        CHECK.due("rule(2)", x.rule(2), 3);
    }

    private static void promise12Aim() {
        RiverSuit x = Told.suit(THREE);
        CHECK.due("aim(-1)", x.aim(-1), RiverSuit.BAD);
        CHECK.due("aim(3)", x.aim(3), RiverSuit.BAD);
        CHECK.due("aim(0)", x.aim(0), 2);
        CHECK.due("aim(1)", x.aim(1), 0);
        CHECK.due("rule(1)", x.rule(1), 1);
        CHECK.due("aim(0) of none", new RiverSuit().aim(0), RiverSuit.BAD);
    }

    private static void promise13Leans() {
        RiverSuit x = Told.suit(THREE);
        CHECK.due("leans(-1, 0)", x.leans(-1, 0, true), RiverSuit.BAD);
        CHECK.due("leans(3, 0)", x.leans(3, 0, true), RiverSuit.BAD);
        CHECK.due("leans(2, -1)", x.leans(2, -1, true), RiverSuit.BAD);
        CHECK.due("leans(2, 2)", x.leans(2, 2, true), RiverSuit.BAD);
        CHECK.due("leans(1, 2)", x.leans(1, 2, true), RiverSuit.BAD);
        CHECK.due("leans(2, 3)", x.leans(2, 3, false), RiverSuit.BAD);
        CHECK.due("leans(2, 1) which it falls by", x.leans(2, 1, true), RiverSuit.STATE);
        CHECK.due("leans(2, 1, false)", x.leans(2, 1, false), 0);
        CHECK.due("it falls still", x.claim(2, 5), 2);
        CHECK.due("leans(2, 0, true)", x.leans(2, 0, true), 0);
        CHECK.due("leans(2, 0, true) again", x.leans(2, 0, true), 1);
        CHECK.due("claim(2, 4)", x.claim(2, 4), 1);
        CHECK.due("leans(2, 0, false)", x.leans(2, 0, false), 1);
        CHECK.due("claim(2, 4) then", x.claim(2, 4), 0);
        CHECK.due("leans(1, 0, false)", x.leans(1, 0, false), 1);
        CHECK.due("claim(1, 4)", x.claim(1, 4), 0);
    }

    private static void promise14Falls() {
        RiverSuit x = Told.suit(THREE);
        CHECK.due("falls(-1, 0)", x.falls(-1, 0, true), RiverSuit.BAD);
        CHECK.due("falls(3, 0)", x.falls(3, 0, true), RiverSuit.BAD);
        CHECK.due("falls(2, -1)", x.falls(2, -1, true), RiverSuit.BAD);
        CHECK.due("falls(2, 2)", x.falls(2, 2, true), RiverSuit.BAD);
        CHECK.due("falls(1, 2)", x.falls(1, 2, false), RiverSuit.BAD);
        CHECK.due("falls(1, 0) on which it leans", x.falls(1, 0, true), RiverSuit.STATE);
        CHECK.due("falls(1, 0, false)", x.falls(1, 0, false), 0);
        CHECK.due("it leans still", x.claim(1, 4), 1);
        CHECK.due("falls(2, 0, true)", x.falls(2, 0, true), 0);
        CHECK.due("claim(2, 5)", x.claim(2, 5), 3);
        CHECK.due("falls(2, 0, true) again", x.falls(2, 0, true), 1);
        CHECK.due("falls(2, 1, false)", x.falls(2, 1, false), 1);
        CHECK.due("claim(2, 5) then", x.claim(2, 5), 1);
        CHECK.due("leans(2, 1) is free", x.leans(2, 1, true), 0);
    }

    private static void promise15Yards() {
        RiverSuit x = Told.suit(THREE);
        CHECK.due("yards(-1, 0)", x.yards(-1, 0), RiverSuit.BAD);
        CHECK.due("yards(3, 0)", x.yards(3, 0), RiverSuit.BAD);
        CHECK.due("yards(0, -1)", x.yards(0, -1), RiverSuit.BAD);
        CHECK.due("yards(0, 10)", x.yards(0, 10), RiverSuit.BAD);
        CHECK.due("yards(1, 9)", x.yards(1, 9), 3);
        CHECK.due("yards(1, 0)", x.yards(1, 0), 9);
        CHECK.due("claim(1, 3)", x.claim(1, 3), 0);
        CHECK.due("claim(0, 3)", x.claim(0, 3), 2);
    }

    private static void promise16Plans() {
        RiverSuit x = Told.suit(THREE + "plan 1;");
        CHECK.due("plans(-1)", x.plans(-1), RiverSuit.BAD);
        CHECK.due("plans(3)", x.plans(3), RiverSuit.BAD);
        CHECK.due("plans(2)", x.plans(2), 2);
        CHECK.due("plans(2) again", x.plans(2), 3);
        for (int i = 4; i <= 6; i++) {
            CHECK.due("plans(0)", x.plans(0), i);
        }
        CHECK.due("plans(0) of the 7th", x.plans(0), RiverSuit.FULL);
        CHECK.due("plans(3) when full", x.plans(3), RiverSuit.BAD);
        CHECK.due("rule(5)", x.rule(5), 6);
        CHECK.due("plan(0)", x.plan(0), 1);
        CHECK.due("plan(2)", x.plan(2), 2);
        CHECK.due("plan(5)", x.plan(5), 0);
    }

    private static void promise17Cut() {
        RiverSuit x = Told.suit(THREE + "plan 1;plan 2;plan 0;");
        CHECK.due("cut(-1)", x.cut(-1), RiverSuit.BAD);
        CHECK.due("cut(4)", x.cut(4), RiverSuit.BAD);
        CHECK.due("cut(3)", x.cut(3), 3);
        CHECK.due("cut(1)", x.cut(1), 3);
        CHECK.due("plan(0)", x.plan(0), 1);
        CHECK.due("plan(1)", x.plan(1), RiverSuit.BAD);
        CHECK.due("cut(0)", x.cut(0), 1);
        CHECK.due("rule(5)", x.rule(5), 0);
        CHECK.due("cut(0) of none", new RiverSuit().cut(0), 0);
    }
}
