/** Promises 25 to 31: the end, by the fewest claims, by a plan, by odds, by turns, by shares. */
public final class EndTest {
    private static final Check CHECK = new Check("EndTest");
    /** 2, the end, leans on 0 and falls by 1. */
    private static final String THREE = "river 0 9 1;bridge 2 3 1;river 0 9 1 0 unless 1;";

    public static void main(String[] args) {
        promise25Few();
        promise26Foil();
        promise27Trial();
        promise28Luck();
        promise29Game();
        promise29GameTakesOwnClaimsAlone();
        promise30Days();
        promise31Share();
        CHECK.close();
    }

    private static void promise25Few() {
        RiverSuit x = Told.suit(THREE);
        CHECK.due("few(-1)", x.few(-1), RiverSuit.BAD);
        CHECK.due("few(2)", x.few(2), RiverSuit.BAD);
        CHECK.due("few(0)", x.few(0), 2);
        CHECK.due("few(1)", x.few(1), 0b101);
        x.say(2);
        CHECK.due("few(0) with 2", x.few(0), 1);
        CHECK.due("few(1) with 2", x.few(1), 0b001);
        x.say(0);
        CHECK.due("few(0) when it stands", x.few(0), 0);
        CHECK.due("few(1) when it stands", x.few(1), 0);
        x.day(2);
        x.say(1);
        CHECK.due("few(0) by none", x.few(0), RiverSuit.NONE);
        CHECK.due("few(1) by none", x.few(1), RiverSuit.NONE);
        RiverSuit y = Told.suit("river 9 9 0;river 9 9 0;river 0 0 0 unless 0 1;river 9 9 0 unless 2;said 2;");
        CHECK.due("few(0) not in time", y.few(0), 2);
        CHECK.due("few(1): the least of two", y.few(1), 0b1001);
        CHECK.due("few(0) of none", new RiverSuit().few(0), RiverSuit.NONE);
        CHECK.due("few(1) of none", new RiverSuit().few(1), RiverSuit.NONE);
        CHECK.due("few(2) of none", new RiverSuit().few(2), RiverSuit.BAD);
    }

    private static void promise26Foil() {
        RiverSuit x = Told.suit(THREE);
        CHECK.due("foil(-1)", x.foil(-1), RiverSuit.BAD);
        CHECK.due("foil(2)", x.foil(2), RiverSuit.BAD);
        CHECK.due("foil(0) when it does not stand", x.foil(0), 0);
        CHECK.due("foil(1) when it does not stand", x.foil(1), 0);
        x.say(0);
        x.say(2);
        CHECK.due("foil(0) not in time", x.foil(0), 1);
        CHECK.due("foil(1)", x.foil(1), 0b010);
        x.falls(2, 1, false);
        CHECK.due("foil(0) by none", x.foil(0), RiverSuit.NONE);
        CHECK.due("foil(1) by none", x.foil(1), RiverSuit.NONE);
        RiverSuit y = Told.suit("river 0 0 0;river 0 0 0;river 0 0 0 0;river 0 0 0 1;river 0 0 0 unless 2 3;said 4;");
        CHECK.due("foil(0) by two", y.foil(0), 2);
        CHECK.due("foil(1): the least", y.foil(1), 0b00101);
        RiverSuit z = Told.suit("river 0 0 0;river 0 0 0 0;river 0 0 0 1;river 0 0 0 2;river 0 0 0 3;river 0 0 0 4;"
                + "river 0 0 0 5;river 0 0 0 6;");
        CHECK.due("few(0) by all eight", z.few(0), 8);
        CHECK.due("few(1) by all eight", z.few(1), 255);
        CHECK.due("foil(0) of none", new RiverSuit().foil(0), RiverSuit.NONE);
        CHECK.due("foil(1) of none", new RiverSuit().foil(1), RiverSuit.NONE);
        CHECK.due("foil(-1) of none", new RiverSuit().foil(-1), RiverSuit.BAD);
    }

    private static void promise27Trial() {
        RiverSuit x = Told.suit(THREE + "plan 0;plan 1;plan 1;plan 2;");
        CHECK.due("trial(-1)", x.trial(-1), RiverSuit.BAD);
        CHECK.due("trial(4)", x.trial(4), RiverSuit.BAD);
        trial(x, 0b011, 0, 1, 1);
        x.cut(2);
        x.plans(2);
        trial(x, 0b101, 1, 1, 1);
        CHECK.due("nothing is said by a trial", x.rule(3), 0);
        CHECK.due("the day stays", x.rule(2), 0);
        x.day(8);
        trial(x, 0b001, 0, 1, 2);
        x.day(9);
        x.say(0);
        trial(x, 0b001, 0, 0, 3);
        x.cut(0);
        x.plans(2);
        trial(x, 0b101, 1, RiverSuit.NONE, 0);
        x.plans(2);
        trial(x, 0b101, 1, 1, 1);
        x.day(0);
        trial(x, 0b101, 1, 1, 1);
        RiverSuit none = new RiverSuit();
        trial(none, 0, RiverSuit.NONE, RiverSuit.NONE, 0);
        CHECK.due("trial(4) of none", none.trial(4), RiverSuit.BAD);
    }

    private static void trial(RiverSuit x, int standing, int end, int first, int lost) {
        CHECK.due("trial(0)", x.trial(0), standing);
        CHECK.due("trial(1)", x.trial(1), end);
        CHECK.due("trial(2)", x.trial(2), first);
        CHECK.due("trial(3)", x.trial(3), lost);
    }

    private static void promise28Luck() {
        RiverSuit x = Told.suit(THREE + "plan 0;plan 2;");
        CHECK.due("luck(-1, 0)", x.luck(-1, 0), RiverSuit.BAD);
        CHECK.due("luck(11, 0)", x.luck(11, 0), RiverSuit.BAD);
        CHECK.due("luck(0, -1)", x.luck(0, -1), RiverSuit.BAD);
        CHECK.due("luck(0, 2)", x.luck(0, 2), RiverSuit.BAD);
        luck(x, 0, 1, 1);
        luck(x, 3, 49, 100);
        luck(x, 5, 1, 4);
        luck(x, 10, 0, 1);
        CHECK.due("nothing is said", x.rule(3), 0);
        x.cut(1);
        x.plans(0);
        x.plans(2);
        luck(x, 5, 3, 8);
        x.cut(1);
        x.plans(2);
        x.plans(1);
        luck(x, 1, 81, 1000);
        luck(x, 0, 0, 1);
        x.day(9);
        luck(x, 2, 0, 1);
        x.say(0);
        x.cut(0);
        x.plans(2);
        luck(x, 1, 9, 10);
        x.say(2);
        luck(x, 7, 1, 1);
        RiverSuit none = new RiverSuit();
        CHECK.due("luck(0, 0) of none", none.luck(0, 0), RiverSuit.STATE);
        CHECK.due("luck(0, 1) of none", none.luck(0, 1), RiverSuit.STATE);
        CHECK.due("luck(11, 1) of none", none.luck(11, 1), RiverSuit.BAD);
        RiverSuit six = Told.suit("river 0 9 1;river 0 9 1 0;river 0 9 1 1;river 0 9 1 2;river 0 9 1 3;"
                + "river 0 9 1 4;plan 0;plan 1;plan 2;plan 3;plan 4;plan 5;");
        luck(six, 1, 531441, 1000000);
        luck(six, 9, 1, 1000000);
    }

    private static void luck(RiverSuit x, int v, long top, long bottom) {
        CHECK.due("luck(" + v + ", 0)", x.luck(v, 0), top);
        CHECK.due("luck(" + v + ", 1)", x.luck(v, 1), bottom);
    }

    private static void promise29Game() {
        RiverSuit x = Told.suit("river 0 9 1;");
        CHECK.due("game(-1)", x.game(-1), RiverSuit.BAD);
        CHECK.due("game(2)", x.game(2), RiverSuit.BAD);
        game(x, 0, 1, RiverSuit.NONE);
        game(x, 8, 1, 0);
        game(x, 9, 0, RiverSuit.NONE);
        x.say(0);
        game(x, 9, 1, RiverSuit.NONE);
        RiverSuit y = Told.suit("bridge 3 3 1;river 4 4 1 unless 0;");
        game(y, 0, 0, RiverSuit.NONE);
        game(y, 2, 0, RiverSuit.NONE);
        game(y, 3, 0, 0);
        game(y, 4, 1, 1);
        game(y, 5, 0, RiverSuit.NONE);
        CHECK.due("nothing is said", y.rule(3), 0);
        y.day(3);
        y.say(0);
        game(y, 4, 0, RiverSuit.NONE);
        CHECK.due("game(0) of none", new RiverSuit().game(0), RiverSuit.STATE);
        CHECK.due("game(1) of none", new RiverSuit().game(1), RiverSuit.STATE);
        CHECK.due("game(2) of none", new RiverSuit().game(2), RiverSuit.BAD);
    }

    private static void promise29GameTakesOwnClaimsAlone() {
        String rest = "bridge 0 0 1 unless 0 1;ferry 0 0 1 unless 2;said 2;said 3;day 8;";
        game(Told.suit("river 8 8 1;river 8 8 1;" + rest), 8, 1, 0);
        game(Told.suit("river 7 7 1;river 8 8 1;" + rest), 8, 1, 1);
        game(Told.suit("ferry 8 8 1;river 8 8 1;" + rest), 8, 1, 1);
        game(Told.suit("bridge 8 8 1;ferry 8 8 1;" + rest), 8, 0, RiverSuit.NONE);
        game(Told.suit("ferry 0 9 1;ferry 0 9 1;" + rest), 0, 0, RiverSuit.NONE);
        // The bridge must spend its one day on one of two answers, the river has two ways.
        RiverSuit x = Told.suit("bridge 7 7 1;bridge 7 7 1;river 8 8 1 unless 0;river 8 8 1 unless 1;"
                + "ferry 0 0 0 unless 2 3;ferry 0 0 0 unless 4;said 4;said 5;");
        game(x, 7, 1, RiverSuit.NONE);
        RiverSuit y = Told.suit("bridge 5 7 1;bridge 5 7 1;river 8 8 1 unless 0;river 8 8 1 unless 1;"
                + "ferry 0 0 0 unless 2 3;ferry 0 0 0 unless 4;said 4;said 5;");
        game(y, 5, 0, 0);
        game(y, 7, 1, RiverSuit.NONE);
    }

    private static void game(RiverSuit x, int day, int wins, int says) {
        x.day(day);
        CHECK.due("game(0) on day " + day, x.game(0), wins);
        CHECK.due("game(1) on day " + day, x.game(1), says);
    }

    private static void promise30Days() {
        CHECK.due("days() of none", new RiverSuit().days(), RiverSuit.STATE);
        RiverSuit x = Told.suit("river 0 9 1;day 9;");
        CHECK.due("days()", x.days(), 0b0111111111);
        x.say(0);
        CHECK.due("days() when it stands", x.days(), 0b1111111111);
        CHECK.due("the day stays", x.rule(2), 9);
        RiverSuit y = Told.suit("bridge 3 3 1;river 4 4 1 unless 0;");
        CHECK.due("days() of which one wins", y.days(), 0b0000010000);
        RiverSuit z = Told.suit("bridge 0 0 0;ferry 0 9 9;said 0;");
        CHECK.due("days() without hope", z.days(), 0);
    }

    private static void promise31Share() {
        shares("river 0 0 0;", 1, 1);
        shares("river 0 0 0;river 0 0 0 0;", 1, 2, 1, 2);
        shares("river 0 0 0;river 0 0 0 unless 0;", -1, 2, 1, 2);
        shares("river 0 0 0;river 0 0 0;river 0 0 0 0 1;", 1, 3, 1, 3, 1, 3);
        shares(THREE + "said 1;", 1, 6, -1, 3, 1, 6);
        shares("river 0 0 0;river 0 0 0;end 0;", 1, 1, 0, 1);
        shares("river 0 0 0;river 0 0 0 0;river 0 0 0 1;river 0 0 0 2;river 0 0 0 3;river 0 0 0 4;"
                + "river 0 0 0 5;river 0 0 0 6;", 1, 8, 1, 8, 1, 8, 1, 8, 1, 8, 1, 8, 1, 8, 1, 8);
        // The end falls by k of those before it, n in all: it stands by itself in one order of k + 1.
        shares("river 0 0 0;river 0 0 0;river 0 0 0;river 0 0 0;river 0 0 0 unless 0 1 2 3;",
                -1, 20, -1, 20, -1, 20, -1, 20, 1, 5);
        shares("river 0 0 0;river 0 0 0;river 0 0 0;river 0 0 0;river 0 0 0;river 0 0 0;river 0 0 0;"
                + "river 0 0 0 unless 0 1 2;", -1, 12, -1, 12, -1, 12, 0, 1, 0, 1, 0, 1, 0, 1, 1, 4);
        RiverSuit x = Told.suit(THREE);
        CHECK.due("share(-1, 0)", x.share(-1, 0), RiverSuit.BAD);
        CHECK.due("share(3, 0)", x.share(3, 0), RiverSuit.BAD);
        CHECK.due("share(0, -1)", x.share(0, -1), RiverSuit.BAD);
        CHECK.due("share(0, 2)", x.share(0, 2), RiverSuit.BAD);
        CHECK.due("share(0, 0) of none", new RiverSuit().share(0, 0), RiverSuit.BAD);
    }

    private static void shares(String text, long... due) {
        RiverSuit x = Told.suit(text);
        for (int i = 0; i < due.length; i++) {
            CHECK.due("share(" + i / 2 + ", " + i % 2 + ") of " + text, x.share(i / 2, i % 2), due[i]);
        }
    }
}
