/** The edges of promises 36, 37 and 42: images of all that changes, counts from none to all. */
public final class ImageEdgeTest {
    private static final Check CHECK = new Check("ImageEdgeTest");
    private static final Twin NO_CLAIMS = new Twin(CHECK, "no claims", Some::none);
    private static final Twin ORDINARY = new Twin(CHECK, "ordinary", Some::ordinary);
    private static final Twin FULL = new Twin(CHECK, "full", Some::full);
    private static final int BAD = RiverSuit.BAD, STATE = RiverSuit.STATE, NONE = RiverSuit.NONE;

    public static void main(String[] args) {
        promise36ImagesZeroAndOne();
        promise36WhetherThereWasOne();
        promise36TheLatestIsKept();
        promise37ImagesZeroAndOne();
        promise37ThereIsNone();
        promise37EachThatIsKept();
        promise37EachSetThatWasSeen();
        promise37NothingElse();
        promise37TheImageStays();
        promise37OfNoneAndOfAll();
        promise42What();
        promise42FromNoneToAll();
        promise42CellsOfSheet0();
        CHECK.close();
    }

    /** 'IMAGE k (0, 1) .. BAD.' */
    private static void promise36ImagesZeroAndOne() {
        NO_CLAIMS.bad("keep", RiverSuit::keep, 0, 1);
        ORDINARY.bad("keep", RiverSuit::keep, 0, 1);
        FULL.bad("keep", RiverSuit::keep, 0, 1);
    }

    /** 'whether there was one (1, 0)'. */
    private static void promise36WhetherThereWasOne() {
        for (int k = 0; k <= 1; k++) {
            RiverSuit x = new RiverSuit();
            CHECK.due("keep(" + k + ") first", x.keep(k), 0);
            CHECK.due("keep(" + k + ") again", x.keep(k), 1);
            CHECK.due("keep of the other", x.keep(1 - k), 0);
            CHECK.due("keep of the other again", x.keep(1 - k), 1);
        }
    }

    private static void promise36TheLatestIsKept() {
        RiverSuit x = new RiverSuit();
        x.day(1);
        x.keep(0);
        x.day(2);
        x.keep(0);
        x.day(3);
        CHECK.due("back(0) of the latest", x.back(0), 2);
    }

    private static void promise37ImagesZeroAndOne() {
        NO_CLAIMS.bad("back", RiverSuit::back, 0, 1);
        ORDINARY.bad("back", RiverSuit::back, 0, 1);
        FULL.bad("back", RiverSuit::back, 0, 1);
    }

    /** 'STATE: there is none.' */
    private static void promise37ThereIsNone() {
        NO_CLAIMS.keeps("back(0)", x -> x.back(0), STATE);
        NO_CLAIMS.keeps("back(1)", x -> x.back(1), STATE);
        ORDINARY.keeps("back(1)", x -> x.back(1), STATE);
        RiverSuit x = new RiverSuit();
        x.keep(1);
        CHECK.due("back(0) when the other is kept", x.back(0), STATE);
        CHECK.due("back(1)", x.back(1), 0);
    }

    /** 'what CLAIMS LEAN on, FALL by, YARDS, what is SAID, THE END, DAY, THE PLAN, what was SEEN'. */
    private static void promise37EachThatIsKept() {
        RiverSuit x = kept();
        x.leans(1, 0, false);
        x.back(1);
        CHECK.due("leans", x.claim(1, 4), 1);
        x.falls(2, 1, false);
        x.falls(2, 0, true);
        x.back(1);
        CHECK.due("falls", x.claim(2, 5), 0b10);
        x.yards(0, 9);
        x.yards(2, 0);
        x.back(1);
        CHECK.due("yards", x.claim(0, 3) * 10 + x.claim(2, 3), 21);
        x.drop(0);
        x.say(2);
        x.back(1);
        CHECK.due("what is said", x.rule(3), 0b001);
        x.aim(2);
        x.back(1);
        CHECK.due("the end", x.rule(1), 1);
        x.day(9);
        CHECK.due("back(1) answers the day", x.back(1), 2);
        CHECK.due("the day", x.rule(2), 2);
        x.cut(0);
        x.plans(1);
        x.plans(1);
        x.plans(1);
        x.back(1);
        CHECK.due("how many the plan has", x.rule(5), 2);
        CHECK.due("the plan's first", x.plan(0), 2);
        CHECK.due("the plan's second", x.plan(1), 0);
        CHECK.due("the plan's third", x.plan(2), BAD);
        x.falls(1, 0, false);
        x.leans(1, 0, false);
        x.forget(0);
        x.see(0b011, true);
        x.see(0b011, true);
        CHECK.due("fits(2) by others", x.fits(2), 0);
        x.back(1);
        x.leans(1, 0, false);
        CHECK.due("how many were seen", x.count(2), 1);
        CHECK.due("what was seen", x.fits(2), 1);
    }

    /** Of six that were seen each set and each answer is kept: what fits tells of them all. */
    private static void promise37EachSetThatWasSeen() {
        RiverSuit x = Told.suit(Some.alike(7));
        for (int i = 0; i < 6; i++) {
            x.see(0b1000000 | 1 << i, i % 2 == 0);
        }
        x.keep(0);
        x.forget(0);
        for (int i = 5; i >= 0; i--) {
            x.see(0b1000000 | 1 << i, i % 2 == 0);
        }
        x.keep(1);
        x.forget(0);
        for (int i = 0; i < 6; i++) {
            x.see(0b1000000, true);
        }
        for (int k = 0; k < 2; k++) {
            x.back(k);
            CHECK.due("six were seen in image " + k, x.count(2), 6);
            for (int n = 5; n >= 0; n--) {
                int fell = 0;
                for (int i = 0; i <= n; i++) {
                    int c = k == 0 ? i : 5 - i;
                    fell |= c % 2 == 1 ? 1 << c : 0;
                }
                CHECK.due("fits(2) by the first " + (n + 1) + " of image " + k, x.fits(2), fell);
                x.forget(n);
            }
        }
    }

    private static RiverSuit kept() {
        RiverSuit x = Told.suit(Some.THREE + "end 1;day 2;plan 2;plan 0;said 0;");
        x.see(0b011, false);
        x.keep(1);
        return x;
    }

    /** 'All is as IMAGE k': what an image is not of stays as it is. */
    private static void promise37NothingElse() {
        RiverSuit x = kept();
        x.sheet(0, 0, 5);
        x.read(0, 1, 0, 1);
        Told.tell(x, "day 10;");
        x.feed(' ');
        CHECK.due("back(1)", x.back(1), 2);
        CHECK.due("the tape", x.count(4), 1);
        CHECK.due("the sheet", x.count(5), 5);
        CHECK.due("torn()", x.torn(), 3);
        CHECK.due("fault()", x.fault(), 3);
        CHECK.due("images", x.count(3), 1);
        CHECK.due("rule(0)", x.rule(0), 3);
    }

    private static void promise37TheImageStays() {
        RiverSuit x = kept();
        for (int d = 0; d <= 9; d++) {
            x.day(d);
            x.say(0);
            x.drop(0);
            CHECK.due("back(1) again and again", x.back(1), 2);
            CHECK.due("what is said", x.rule(3), 1);
        }
        x.keep(0);
        x.day(7);
        x.keep(1);
        CHECK.due("back(0), which the other did not change", x.back(0), 2);
        CHECK.due("back(1)", x.back(1), 7);
    }

    private static void promise37OfNoneAndOfAll() {
        RiverSuit none = new RiverSuit();
        none.keep(0);
        none.day(9);
        none.see(0, true);
        CHECK.due("back(0) of none", none.back(0), 0);
        CHECK.due("count(2) of none", none.count(2), 0);
        CHECK.due("rule(1) of none", none.rule(1), NONE);
        RiverSuit all = Some.full();
        CHECK.due("back(0) when full", all.back(0), 0);
        CHECK.due("rule(3) of image 0", all.rule(3), 0);
        CHECK.due("back(1) when full", all.back(1), 9);
        CHECK.due("rule(3) of image 1", all.rule(3), 255);
        CHECK.due("rule(5) of image 1", all.rule(5), 6);
        CHECK.due("count(2) of image 1", all.count(2), 6);
    }

    private static void promise42What() {
        NO_CLAIMS.bad("count", RiverSuit::count, 0, 5);
        ORDINARY.bad("count", RiverSuit::count, 0, 5);
        FULL.bad("count", RiverSuit::count, 0, 5);
    }

    /** 'How many: 0 SAID, 1 STAND, 2 SEEN, 3 IMAGES, 4 bytes on THE TAPE, 5 CELLS of SHEET 0'. */
    private static void promise42FromNoneToAll() {
        counts(Some.none(), 0, 0, 0, 0, 0, NONE);
        counts(Some.ordinary(), 2, 2, 2, 1, 18, 3);
        counts(Some.full(), 8, 6, 6, 2, 0, 40);
        counts(Some.fullTape(), 0, 0, 0, 0, 160, NONE);
        RiverSuit x = new RiverSuit();
        x.keep(1);
        CHECK.due("count(3) of image 1 alone", x.count(3), 1);
        RiverSuit y = Told.suit("river 0 9 1;river 0 9 1 0;said 1;");
        CHECK.due("count(0) of what is said", y.count(0), 1);
        CHECK.due("count(1) of what does not stand", y.count(1), 0);
    }

    private static void counts(RiverSuit x, int... due) {
        for (int what = 0; what < due.length; what++) {
            CHECK.due("count(" + what + ")", x.count(what), due[what]);
        }
    }

    /** '5 CELLS of SHEET 0 (NONE: nothing)'. */
    private static void promise42CellsOfSheet0() {
        RiverSuit x = new RiverSuit();
        for (int k = 1; k <= 3; k++) {
            x.sheet(k, 0, 40);
            CHECK.due("count(5) when another sheet is laid out", x.count(5), NONE);
        }
        for (int lane = 0; lane <= 2; lane++) {
            for (int n = 0; n <= 40; n++) {
                x.sheet(0, lane, n);
                CHECK.due("count(5)", x.count(5), n);
            }
        }
    }
}
