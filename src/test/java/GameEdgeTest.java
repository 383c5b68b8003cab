/** The edges of promises 29 and 30: THE GAME on even and odd days to 9, on which day it could begin. */
public final class GameEdgeTest {
    private static final Check CHECK = new Check("GameEdgeTest");
    private static final Twin NO_CLAIMS = new Twin(CHECK, "no claims", Some::none);
    private static final Twin ORDINARY = new Twin(CHECK, "ordinary", Some::ordinary);
    private static final Twin FULL = new Twin(CHECK, "full", Some::full);
    private static final int STATE = RiverSuit.STATE, NONE = RiverSuit.NONE;
    private static final int ALL_DAYS = 1023;

    public static void main(String[] args) {
        promise29What();
        promise29NoClaims();
        promise30NoClaims();
        theRiverSaysOnEvenDays();
        theBridgeSaysOnOddDays();
        theFerrySaysNothing();
        itsOwnClaimsAlone();
        inTimeFromTheFirstDayToTheLast();
        oneClaimADay();
        orNothing();
        theEndOfAnySide();
        promise29NoneIfHeWinsByNothingOrNever();
        promise29TheLeastClaimByWhichHeWins();
        promise29TheBridgesLeastClaim();
        promise29BothDoWhatIsBest();
        promise30WithWhatIsSaidNow();
        CHECK.close();
    }

    private static void promise29What() {
        NO_CLAIMS.bad("game", RiverSuit::game, 0, 1);
        ORDINARY.bad("game", RiverSuit::game, 0, 1);
        FULL.bad("game", RiverSuit::game, 0, 1);
    }

    /** 'STATE: there are no CLAIMS.' */
    private static void promise29NoClaims() {
        for (int d = 0; d <= 9; d++) {
            RiverSuit x = new RiverSuit();
            x.day(d);
            CHECK.due("game(0) of no claims", x.game(0), STATE);
            CHECK.due("game(1) of no claims", x.game(1), STATE);
        }
        NO_CLAIMS.keeps("game(0)", x -> x.game(0), STATE);
        NO_CLAIMS.keeps("game(1)", x -> x.game(1), STATE);
    }

    private static void promise30NoClaims() {
        NO_CLAIMS.keeps("days()", RiverSuit::days, STATE);
        RiverSuit x = Told.suit("river 0 9 1;");
        x.text();
        CHECK.due("days() when there are none again", x.days(), STATE);
    }

    /** 'on an even DAY the river'. */
    private static void theRiverSaysOnEvenDays() {
        for (int d = 0; d <= 9; d++) {
            boolean even = d % 2 == 0;
            game("river " + d + " " + d + " 1;", even ? upTo(d) : 0);
            RiverSuit x = Told.suit("river " + d + " " + d + " 1;day " + d + ";");
            CHECK.due("game(1) on day " + d, x.game(1), even ? 0 : NONE);
        }
    }

    /** 'on an odd one the bridge'. */
    private static void theBridgeSaysOnOddDays() {
        for (int d = 0; d <= 9; d++) {
            boolean odd = d % 2 == 1;
            String text = "bridge " + d + " " + d + " 1;river 0 9 1 unless 0;said 1;";
            game(text, odd ? ALL_DAYS & ~upTo(d) : ALL_DAYS);
            CHECK.due("game(1) on day " + d, Told.suit(text + "day " + d + ";").game(1), odd ? 0 : NONE);
        }
    }

    private static void theFerrySaysNothing() {
        game("ferry 0 9 1;", 0);
        game("ferry 0 9 1;river 0 9 1 unless 0;said 1;", ALL_DAYS);
    }

    /** 'says one of its own CLAIMS': the river none of the bridge's, the bridge none of the river's. */
    private static void itsOwnClaimsAlone() {
        game("bridge 0 9 1;", 0);
        game("bridge 0 9 1;river 0 9 1 0;said 1;", 0);
        game("river 0 9 1;river 0 9 1 unless 0;said 1;", ALL_DAYS);
        game("river 1 1 1;river 0 9 1 unless 0;said 1;", ALL_DAYS);
    }

    /** 'that is IN TIME'. */
    private static void inTimeFromTheFirstDayToTheLast() {
        game("river 2 4 1;", upTo(4));
        game("river 1 3 1;", upTo(2));
        game("river 3 3 1;", 0);
        game("river 8 9 1;", upTo(8));
        game("river 9 9 1;", 0);
        game("river 0 0 1;", upTo(0));
        game("river 0 1 1;", upTo(0));
        game("bridge 2 4 1;river 0 9 1 unless 0;said 1;", ALL_DAYS & ~upTo(3));
        game("bridge 8 8 1;river 0 9 1 unless 0;said 1;", ALL_DAYS);
        game("bridge 8 9 1;river 0 9 1 unless 0;said 1;", 0);
        game("bridge 0 0 1;river 0 9 1 unless 0;said 1;", ALL_DAYS);
        game("bridge 1 1 1;river 0 9 1 unless 0;said 1;", ALL_DAYS & ~upTo(1));
    }

    /** 'on each DAY to 9 .. one of its own CLAIMS': five days for the river, five for the bridge. */
    private static void oneClaimADay() {
        game("river 6 9 1;river 6 9 1 0;", upTo(6));
        game("river 7 9 1;river 7 9 1 0;", 0);
        game("river 8 8 1;river 8 8 1 0;", 0);
        String four = "river 0 9 1;river 0 9 1 0;river 0 9 1 1;river 0 9 1 2;";
        game(four, upTo(2));
        game(four + "river 0 9 1 3;", upTo(0));
        game(four + "river 0 9 1 3;river 0 9 1 4;", 0);
        RiverSuit x = Told.suit(four + "river 0 9 1 3;");
        CHECK.due("game(1) with no day to lose", x.game(1), 0);
        // The bridge needs four days of its own: up to day 3 it has 3, 5, 7 and 9, behind it one less.
        String fell = "bridge 0 9 1;bridge 0 9 1 0;bridge 0 9 1 1;bridge 0 9 1 2;river 0 9 1 unless 3;said 4;";
        game(fell, ALL_DAYS & ~upTo(3));
    }

    /** 'or nothing.' */
    private static void orNothing() {
        game("river 0 9 1;river 0 9 1 unless 0;said 1;", ALL_DAYS);
        game("bridge 0 9 1;ferry 0 9 1 0;said 1;", 0);
    }

    /** 'The river WINS, if THE END STANDS then; else the bridge does': whosesoever THE END is. */
    private static void theEndOfAnySide() {
        game("bridge 0 9 1;said 0;", ALL_DAYS);
        game("ferry 0 9 1;said 0;", ALL_DAYS);
        game("river 0 9 1;said 0;", ALL_DAYS);
        game("river 0 0 1;bridge 0 9 1 unless 0;end 0;said 0;", ALL_DAYS);
    }

    /** 'nothing (NONE), if he WINS by that or never'. */
    private static void promise29NoneIfHeWinsByNothingOrNever() {
        RiverSuit x = Told.suit("river 0 9 1;");
        int[] due = {NONE, NONE, NONE, NONE, NONE, NONE, NONE, NONE, 0, NONE};
        for (int d = 0; d <= 9; d++) {
            x.day(d);
            CHECK.due("game(1) on day " + d, x.game(1), due[d]);
        }
        RiverSuit y = Told.suit("bridge 0 9 1;river 0 9 1 unless 0;said 1;");
        for (int d = 0; d <= 9; d++) {
            y.day(d);
            CHECK.due("game(0) on day " + d, y.game(0), 0);
            CHECK.due("game(1) of the bridge on day " + d, y.game(1), d == 9 ? 0 : NONE);
        }
    }

    /** 'else the least CLAIM by which he does': his own, in time, not said yet. */
    private static void promise29TheLeastClaimByWhichHeWins() {
        String rest = "ferry 0 9 0 unless 0 1 2;ferry 0 9 0 unless 3;said 3;said 4;day 8;";
        says("river 8 8 1;river 8 8 1;river 8 8 1;" + rest, 0);
        says("river 9 9 1;river 8 8 1;river 8 8 1;" + rest, 1);
        says("river 7 7 1;river 0 7 1;river 0 8 1;" + rest, 2);
        says("bridge 0 9 1;river 8 9 1;river 8 8 1;" + rest, 1);
        says("ferry 0 9 1;bridge 0 9 1;river 0 9 1;" + rest, 2);
        says("ferry 0 9 1;bridge 0 9 1;ferry 0 9 1;" + rest, NONE);
        says("river 8 8 1;river 8 8 1;river 8 8 1;" + rest + "said 2;", NONE);
        says(Some.alike(7) + "river 8 8 1;day 8;", 7);
    }

    private static void promise29TheBridgesLeastClaim() {
        String rest = "ferry 0 9 0 unless 0 1 2;said 3;day 9;";
        says("bridge 9 9 1;bridge 9 9 1;bridge 9 9 1;" + rest, 0);
        says("bridge 8 8 1;bridge 9 9 1;bridge 9 9 1;" + rest, 1);
        says("river 0 9 1;ferry 0 9 1;bridge 0 9 1;" + rest, 2);
        says("river 0 9 1;ferry 0 9 1;bridge 0 8 1;" + rest, NONE);
        says("bridge 9 9 1;bridge 9 9 1;bridge 9 9 1;" + rest + "said 2;", NONE);
    }

    private static void says(String text, int due) {
        RiverSuit x = Told.suit(text);
        CHECK.due("game(1) of " + text, x.game(1), due);
    }

    /** 'Both do what is best.' */
    private static void promise29BothDoWhatIsBest() {
        // On day 8 the river can say 2 or 3, of which the bridge's 0 fells one, its 1 the other.
        String rest = "river 8 8 1 unless 0;river 8 8 1 unless 1;ferry 0 9 0 unless 2 3;ferry 0 9 0 unless 4;"
                + "said 4;said 5;";
        game("bridge 7 7 1;bridge 7 7 1;" + rest, upTo(8));
        game("bridge 5 7 1;bridge 5 7 1;" + rest, upTo(8) & ~upTo(5));
        game("bridge 5 5 1;bridge 7 7 1;" + rest, upTo(8) & ~upTo(5));
        game("bridge 9 9 1;bridge 7 7 1;" + rest, 1 << 8);
        // What the other can say on the very next day counts: 1 would be felled by 0, 2 is not.
        says("bridge 9 9 1;river 8 8 1 unless 0;river 8 8 1;ferry 0 9 0 unless 1 2;ferry 0 9 0 unless 3;"
                + "said 3;said 4;day 8;", 2);
        // So for the bridge on day 7: of its 1 and 2 the river's 0 fells the one on day 8.
        says("river 8 8 1;bridge 7 7 1 unless 0;bridge 7 7 1;ferry 0 9 0 unless 1 2;said 3;day 7;", 2);
    }

    /** 'DAYS (0 to 9) on which THE GAME could begin (with what is SAID now) .. (bits).' */
    private static void promise30WithWhatIsSaidNow() {
        RiverSuit x = Told.suit("river 0 9 1;bridge 0 9 1;river 0 9 1 0 unless 1;");
        CHECK.due("days() with nothing said", x.days(), 0);
        x.say(0);
        x.say(2);
        CHECK.due("days() when the bridge has always one day more", x.days(), 0);
        x.say(1);
        CHECK.due("days() when it is lost", x.days(), 0);
        x.aim(1);
        CHECK.due("days() of what stands", x.days(), ALL_DAYS);
        RiverSuit y = Told.suit("river 0 9 1;");
        for (int d = 0; d <= 9; d++) {
            y.day(d);
            CHECK.due("days() does not hang on the day", y.days(), upTo(8));
        }
        y.day(9);
        y.say(0);
        CHECK.due("days() on all of them", y.days(), ALL_DAYS);
    }

    private static int upTo(int day) {
        return (2 << day) - 1;
    }

    /** The days on which the river wins, asked at once and by each day. */
    private static void game(String text, int days) {
        RiverSuit x = Told.suit(text);
        CHECK.due("days() of " + text, x.days(), days);
        for (int d = 0; d <= 9; d++) {
            x.day(d);
            CHECK.due("game(0) on day " + d + " of " + text, x.game(0), days >> d & 1);
        }
    }
}
