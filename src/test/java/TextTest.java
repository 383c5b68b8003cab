/** Promises 1 to 8: a new object, the tape, the text and its faults, what was told. */
public final class TextTest {
    private static final Check CHECK = new Check("TextTest");
    private static final String THREE = "river 0 9 2;bridge 1 5 3 0;ferry 2 2 1 1 unless 0;";

    public static void main(String[] args) {
        promise1NewObject();
        promise2Feed();
        promise3End();
        promise4TakenTexts();
        promise4TakenTextTellsAll();
        promise4RefusedTextChangesNothing();
        promise4Tokens();
        promise4MisplacedTokens();
        promise4Bounds();
        promise4Twice();
        promise4TooMany();
        promise4NoSuchClaim();
        promise5Fault();
        promise6Rule();
        promise7Claim();
        promise8Plan();
        CHECK.close();
    }

    private static void promise1NewObject() {
        RiverSuit x = new RiverSuit();
        CHECK.due("new rule(0)", x.rule(0), 0);
        CHECK.due("new rule(1)", x.rule(1), RiverSuit.NONE);
        for (int what = 2; what <= 5; what++) {
            CHECK.due("new rule(" + what + ")", x.rule(what), 0);
        }
        for (int what = 0; what <= 4; what++) {
            CHECK.due("new count(" + what + ")", x.count(what), 0);
        }
        CHECK.due("new count(5)", x.count(5), RiverSuit.NONE);
        CHECK.due("new fault()", x.fault(), 0);
        CHECK.due("new torn()", x.torn(), 0);
        CHECK.due("new claim(0, 0)", x.claim(0, 0), RiverSuit.BAD);
        for (int k = 0; k < 4; k++) {
            CHECK.due("new lay(" + k + ", 0, 0)", x.lay(k, 0, 0), -11);
        }
    }

    private static void promise2Feed() {
        RiverSuit x = new RiverSuit();
        CHECK.due("feed(-1)", x.feed(-1), RiverSuit.BAD);
        CHECK.due("feed(128)", x.feed(128), RiverSuit.BAD);
        CHECK.due("feed(0)", x.feed(0), 1);
        CHECK.due("feed(127)", x.feed(127), 2);
        for (int i = 3; i <= 160; i++) {
            CHECK.due("feed(32)", x.feed(32), i);
        }
        CHECK.due("feed of the 161st", x.feed(32), RiverSuit.FULL);
        CHECK.due("feed(128) when full", x.feed(128), RiverSuit.BAD);
        CHECK.due("count(4) when full", x.count(4), 160);
    }

    private static void promise3End() {
        RiverSuit x = new RiverSuit();
        CHECK.due("end(0) of an empty tape", x.end(0), 0);
        CHECK.due("end(1) of an empty tape", x.end(1), RiverSuit.BAD);
        feed(x, "river 0 9 2;?");
        CHECK.due("end(-1)", x.end(-1), RiverSuit.BAD);
        CHECK.due("end(14)", x.end(14), RiverSuit.BAD);
        CHECK.due("end(13)", x.end(13), 13);
        CHECK.due("end(12)", x.end(12), 13);
        CHECK.due("count(4)", x.count(4), 12);
        CHECK.due("text() of what was kept", x.text(), 1);
        feed(x, "abc");
        CHECK.due("end(0)", x.end(0), 3);
        CHECK.due("feed behind end(0)", x.feed(32), 1);
    }

    private static void promise4TakenTexts() {
        taken("", 0);
        taken("   ", 0);
        taken("river 0 0 0;", 1);
        taken("river0 0 0;", 1);
        taken("  river   00 09 1  ;  ", 1);
        taken("river 9 9 9;bridge 0 9 0;ferry 3 4 5 0 1;", 3);
        taken("river 0 9 1;river 0 9 1 unless0;", 2);
        taken("river 0 9 1;river 0 9 1 0unless;", -10 - 31, 2);
        taken(THREE, 3);
        taken("plan 0;plan 0;end 0;day 9;said 0;river 0 0 0;", 6);
        taken("day 3;", 1);
    }

    private static void promise4TakenTextTellsAll() {
        RiverSuit x = Told.suit(THREE + "end 0;day 2;said 1;plan 2;plan 0;");
        x.see(1, true);
        x.keep(0);
        x.keep(1);
        x.sheet(0, 0, 3);
        CHECK.due("a text in place of another", Told.tell(x, "river 0 0 0;river 0 0 0 unless 0;"), 2);
        CHECK.due("a text in place of another", Told.tell(x, "ferry 1 2 3;bridge 0 0 0;"), 2);
        CHECK.due("rule(0)", x.rule(0), 2);
        CHECK.due("rule(1): the last one told", x.rule(1), 1);
        CHECK.due("rule(2)", x.rule(2), 0);
        CHECK.due("rule(3)", x.rule(3), 0);
        CHECK.due("rule(5)", x.rule(5), 0);
        CHECK.due("seen no more", x.count(2), 0);
        CHECK.due("images gone", x.count(3), 0);
        CHECK.due("back(0)", x.back(0), RiverSuit.STATE);
        CHECK.due("back(1)", x.back(1), RiverSuit.STATE);
        CHECK.due("the tape is empty", x.count(4), 0);
        CHECK.due("sheets stay", x.count(5), 3);
        for (int c = 0; c < 2; c++) {
            CHECK.due("leans anew", x.claim(c, 4), 0);
            CHECK.due("falls anew", x.claim(c, 5), 0);
        }
        CHECK.due("an empty text", x.text(), 0);
        CHECK.due("rule(0) then", x.rule(0), 0);
        CHECK.due("rule(1) then", x.rule(1), RiverSuit.NONE);
    }

    private static void promise4RefusedTextChangesNothing() {
        RiverSuit x = Told.suit(THREE + "end 0;day 2;said 1;plan 2;");
        x.see(1, true);
        x.keep(1);
        CHECK.due("a text with a fault", Told.tell(x, "bridge 5 5 5;day 1;said 0;plan 0;end 0;x"), -10 - 39);
        CHECK.due("the tape is empty", x.count(4), 0);
        CHECK.due("rule(0)", x.rule(0), 3);
        CHECK.due("rule(1)", x.rule(1), 0);
        CHECK.due("rule(2)", x.rule(2), 2);
        CHECK.due("rule(3)", x.rule(3), 2);
        CHECK.due("rule(5)", x.rule(5), 1);
        CHECK.due("claim(0, 0)", x.claim(0, 0), 0);
        CHECK.due("claim(0, 1)", x.claim(0, 1), 0);
        CHECK.due("seen stays", x.count(2), 1);
        CHECK.due("images stay", x.count(3), 1);
    }

    private static void promise4Tokens() {
        taken("?", -10, 1);
        taken("river 0 9 2;  ?", -10 - 14, 1);
        taken("River 0 0 0;", -10, 1);
        taken("river,0 0 0;", -15, 1);
        taken("river 100 0 0;", -16, 1);
        taken("river 000 0 0;", -16, 1);
        taken("123", -10, 1);
        taken("river 0 0 0\t;", -21, 1);
        taken("river 10 ?", -16, 3);
        taken("river `", -16, 1);
        taken("river {", -16, 1);
        taken("river /", -16, 1);
        taken("river :", -16, 1);
    }

    private static void promise4MisplacedTokens() {
        taken("rive 0 0 0;", -10, 2);
        taken("rivers 0 0 0;", -10, 2);
        taken("riverbridge 0 0 0;", -10, 2);
        taken("xiver 0 0 0;", -10, 2);
        taken("az", -10, 2);
        taken("za", -10, 2);
        taken("unless", -10, 2);
        taken("5", -10, 2);
        taken(" ;", -11, 2);
        taken("river 0 0 0;;", -22, 2);
        taken("river", -15, 2);
        taken("river  ", -17, 2);
        taken("river 0 0 0", -21, 2);
        taken("river 0 0 0 ", -22, 2);
        taken("river a", -16, 2);
        taken("river 0 ;", -18, 2);
        taken("river 0 0 ;", -20, 2);
        taken("river 0 0 0 river", -22, 2);
        taken("river 0 0 0;river 0 0 0 unless;", -40, 2);
        taken("river 0 0 0;river 0 0 0 unless", -40, 2);
        taken("river 0 0 0;river 0 0 0 unless unless 0;", -41, 2);
        taken("river 0 0 0;river 0 0 0 unless 0 unless;", -43, 2);
        taken("river 0 0 0;river 0 0 0 unless 0 end;", -43, 2);
        taken("end;", -13, 2);
        taken("end", -13, 2);
        taken("end 0 0;", -16, 2);
        taken("plan;", -14, 2);
        taken("plan 0 0;", -17, 2);
        taken("said;", -14, 2);
        taken("said 0 said", -17, 2);
        taken("day;", -13, 2);
        taken("day 0", -15, 2);
    }

    private static void promise4Bounds() {
        taken("river 10 9 0;", -16, 3);
        taken("river 0 10 0;", -18, 3);
        taken("river 5 4 0;", -18, 3);
        taken("river 5 5 0;", 1);
        taken("river 0 0 10;", -20, 3);
        taken("river 0 0 0 0;", -22, 3);
        taken("river 0 0 0 unless 0;", -29, 3);
        taken("river 0 0 0;river 0 0 0 1;", -34, 3);
        taken("river 0 0 0;river 0 0 0 unless 1;", -41, 3);
        taken("river 0 0 0;end 8;", -26, 3);
        taken("river 0 0 0;plan 8;", -27, 3);
        taken("river 0 0 0;said 8;", -27, 3);
        taken("day 10;", -14, 3);
        taken("day 9;", 1);
    }

    private static void promise4Twice() {
        taken("river 0 0 0;end 0;end 0;", -28, 4);
        taken("end 0;end", -16, 4);
        taken("day 0;day", -16, 4);
        taken("day 5;day x", -16, 4);
        taken("said 0;said 0;", -22, 4);
        taken("river 0 0 0;said 0;said 1;said 0;", -10 - 31, 4);
        taken("river 0 0 0;river 0 0 0 0 0;", -36, 4);
        taken("river 0 0 0;river 0 0 0 0 unless 0;", -43, 4);
        taken("river 0 0 0;river 0 0 0 unless 0 0;", -43, 4);
        taken("river 0 0 0;river 0 0 0 0;river 0 0 0 0;", 3);
        taken("river 0 0 0;plan 0;plan 0;", 3);
    }

    private static void promise4TooMany() {
        String eight = "river 0 0 0;river 0 0 0;river 0 0 0;river 0 0 0;"
                + "river 0 0 0;river 0 0 0;river 0 0 0;river 0 0 0;";
        taken(eight, 8);
        taken(eight + "ferry", -10 - 96, 5);
        taken(eight + " bridge 0 0 0;", -10 - 97, 5);
        String six = "plan 0;plan 0;plan 0;plan 0;plan 0;plan 0;";
        taken("river 0 0 0;" + six, 7);
        taken("river 0 0 0;" + six + "plan", -10 - 54, 5);
        taken(six + "plan 9;", -10 - 42, 5);
        taken(eight + "end 7;said 7;plan 7;", 11);
    }

    private static void promise4NoSuchClaim() {
        taken("end 0;", -16, 6);
        taken("plan 0;", -17, 6);
        taken("said 0;", -17, 6);
        taken("river 0 0 0;end 1; ", -10 - 19, 6);
        taken("river 0 0 0;plan 0;plan 1;", -10 - 26, 6);
        taken("plan 1;plan 0;river 0 0 0;", -10 - 26, 6);
        taken("river 0 0 0;said 1;", -10 - 19, 6);
        taken("end 1;plan 1;said 1;river 0 0 0;river 0 0 0;", 5);
    }

    private static void promise5Fault() {
        RiverSuit x = new RiverSuit();
        CHECK.due("fault() first", x.fault(), 0);
        Told.tell(x, "?");
        CHECK.due("fault() of the latest", x.fault(), 1);
        CHECK.due("fault() again", x.fault(), 1);
        x.feed(63);
        CHECK.due("fault() is not of the tape", x.fault(), 1);
        x.end(0);
        Told.tell(x, "x");
        CHECK.due("fault() of the latest", x.fault(), 2);
        x.text();
        CHECK.due("fault() behind a text that was taken", x.fault(), 0);
    }

    private static void promise6Rule() {
        RiverSuit x = Told.suit(THREE + "end 0;day 4;said 0;said 1;said 2;plan 1;plan 1;");
        long[] due = {3, 0, 4, 7, 3, 2};
        for (int what = 0; what < due.length; what++) {
            CHECK.due("rule(" + what + ")", x.rule(what), due[what]);
        }
        CHECK.due("rule(1) of one claim", Told.suit("ferry 0 0 0;").rule(1), 0);
        CHECK.due("rule(-1)", x.rule(-1), RiverSuit.BAD);
        CHECK.due("rule(6)", x.rule(6), RiverSuit.BAD);
    }

    private static void promise7Claim() {
        RiverSuit x = Told.suit(THREE + "said 0;said 1;said 2;");
        long[][] due = {{0, 0, 9, 2, 0, 0, 1}, {1, 1, 5, 3, 1, 0, 1}, {2, 2, 2, 1, 2, 1, 0}};
        for (int c = 0; c < due.length; c++) {
            for (int what = 0; what < due[c].length; what++) {
                CHECK.due("claim(" + c + ", " + what + ")", x.claim(c, what), due[c][what]);
            }
        }
        CHECK.due("claim(-1, 0)", x.claim(-1, 0), RiverSuit.BAD);
        CHECK.due("claim(3, 0)", x.claim(3, 0), RiverSuit.BAD);
        CHECK.due("claim(0, -1)", x.claim(0, -1), RiverSuit.BAD);
        CHECK.due("claim(0, 7)", x.claim(0, 7), RiverSuit.BAD);
    }

    private static void promise8Plan() {
        RiverSuit x = Told.suit(THREE + "plan 2;plan 0;plan 2;");
        CHECK.due("plan(0)", x.plan(0), 2);
        CHECK.due("plan(1)", x.plan(1), 0);
        CHECK.due("plan(2)", x.plan(2), 2);
        CHECK.due("plan(3)", x.plan(3), RiverSuit.BAD);
        CHECK.due("plan(-1)", x.plan(-1), RiverSuit.BAD);
        CHECK.due("plan(0) of none", new RiverSuit().plan(0), RiverSuit.BAD);
    }

    private static void feed(RiverSuit x, String text) {
        for (int i = 0; i < text.length(); i++) {
            x.feed(text.charAt(i));
        }
    }

    private static void taken(String text, int answer) {
        taken(text, answer, 0);
    }

    private static void taken(String text, int answer, int fault) {
        RiverSuit x = new RiverSuit();
        CHECK.due("text() of '" + text + "'", Told.tell(x, text), answer);
        CHECK.due("fault() of '" + text + "'", x.fault(), fault);
        CHECK.due("count(4) behind '" + text + "'", x.count(4), 0);
    }
}
