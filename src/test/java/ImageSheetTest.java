/** Promises 36 to 42: images, sheets, counts. */
public final class ImageSheetTest {
    private static final Check CHECK = new Check("ImageSheetTest");
    private static final String THREE = "river 0 9 2;bridge 1 5 3 0;ferry 2 2 1 unless 1;";

    public static void main(String[] args) {
        promise36Keep();
        promise37Back();
        promise37BackOfNoClaims();
        promise38Sheet();
        promise39Lay();
        promise40Read();
        promise40ReadRefused();
        promise40ReadOfLanes();
        promise41Torn();
        promise42Count();
        CHECK.close();
    }

    private static void promise36Keep() {
        RiverSuit x = Told.suit(THREE);
        CHECK.due("keep(-1)", x.keep(-1), RiverSuit.BAD);
        CHECK.due("keep(2)", x.keep(2), RiverSuit.BAD);
        CHECK.due("keep(1)", x.keep(1), 0);
        CHECK.due("keep(1) again", x.keep(1), 1);
        CHECK.due("count(3)", x.count(3), 1);
        CHECK.due("keep(0)", x.keep(0), 0);
        CHECK.due("count(3)", x.count(3), 2);
        CHECK.due("keep(0) of none", new RiverSuit().keep(0), 0);
    }

    private static void promise37Back() {
        RiverSuit x = Told.suit(THREE + "day 4;said 1;plan 2;plan 1;end 1;");
        CHECK.due("back(-1)", x.back(-1), RiverSuit.BAD);
        CHECK.due("back(2)", x.back(2), RiverSuit.BAD);
        CHECK.due("back(0)", x.back(0), RiverSuit.STATE);
        x.see(3, true);
        x.keep(0);
        change(x);
        x.keep(1);
        CHECK.due("back(0)", x.back(0), 4);
        told(x, 4, 2, 1, 2, 1);
        CHECK.due("leans as kept", x.claim(1, 4), 1);
        CHECK.due("falls as kept", x.claim(2, 5), 2);
        CHECK.due("yards as kept", x.claim(0, 3), 2);
        CHECK.due("plan as kept", x.plan(0), 2);
        CHECK.due("plan as kept", x.plan(1), 1);
        CHECK.due("what was seen as kept", x.fits(0), 1);
        CHECK.due("the sets seen as kept", seenAfterBack(), 1);
        CHECK.due("back(1)", x.back(1), 7);
        told(x, 7, 1, 2, 1, 2);
        CHECK.due("leans as kept then", x.claim(1, 4), 0);
        CHECK.due("falls as kept then", x.claim(2, 5), 0);
        CHECK.due("yards as kept then", x.claim(0, 3), 9);
        CHECK.due("plan as kept then", x.plan(0), 0);
        CHECK.due("an image stays", x.back(0), 4);
        CHECK.due("count(3)", x.count(3), 2);
    }

    /** Three sets fit by what is seen behind the image, one by what the image kept. */
    private static int seenAfterBack() {
        RiverSuit x = Told.suit("river 0 0 0;river 0 0 0;river 0 0 0;");
        x.see(0b110, false);
        x.see(0b101, true);
        x.keep(0);
        x.forget(0);
        x.see(0b111, false);
        x.see(0b100, true);
        CHECK.due("fits(0) by others", x.fits(0), 3);
        x.back(0);
        return x.fits(0);
    }

    private static void change(RiverSuit x) {
        x.leans(1, 0, false);
        x.falls(2, 1, false);
        x.yards(0, 9);
        x.drop(1);
        x.day(7);
        x.say(0);
        x.aim(2);
        x.cut(0);
        x.plans(0);
        x.forget(0);
        x.see(3, false);
        x.see(7, true);
    }

    private static void told(RiverSuit x, int day, int said, int end, int planned, int seen) {
        CHECK.due("rule(2)", x.rule(2), day);
        CHECK.due("rule(3)", x.rule(3), said);
        CHECK.due("rule(1)", x.rule(1), end);
        CHECK.due("rule(5)", x.rule(5), planned);
        CHECK.due("count(2)", x.count(2), seen);
    }

    private static void promise37BackOfNoClaims() {
        RiverSuit x = new RiverSuit();
        x.day(3);
        x.see(0, true);
        CHECK.due("keep(1)", x.keep(1), 0);
        x.day(5);
        x.forget(0);
        CHECK.due("back(1)", x.back(1), 3);
        CHECK.due("count(2)", x.count(2), 1);
        CHECK.due("rule(1)", x.rule(1), RiverSuit.NONE);
    }

    private static void promise38Sheet() {
        RiverSuit x = new RiverSuit();
        CHECK.due("sheet(-1, 0, 1)", x.sheet(-1, 0, 1), RiverSuit.BAD);
        CHECK.due("sheet(4, 0, 1)", x.sheet(4, 0, 1), RiverSuit.BAD);
        CHECK.due("sheet(0, -1, 1)", x.sheet(0, -1, 1), RiverSuit.BAD);
        CHECK.due("sheet(0, 3, 1)", x.sheet(0, 3, 1), RiverSuit.BAD);
        CHECK.due("sheet(0, 0, 41)", x.sheet(0, 0, 41), RiverSuit.BAD);
        CHECK.due("sheet(0, 0, -1)", x.sheet(0, 0, -1), -14);
        CHECK.due("sheet(4, 0, -1)", x.sheet(4, 0, -1), RiverSuit.BAD);
        CHECK.due("sheet(0, 3, -1)", x.sheet(0, 3, -1), RiverSuit.BAD);
        CHECK.due("nothing yet", x.count(5), RiverSuit.NONE);
        CHECK.due("sheet(0, 0, 0)", x.sheet(0, 0, 0), 1);
        CHECK.due("count(5) of 0", x.count(5), 0);
        CHECK.due("sheet(0, 2, 40)", x.sheet(0, 2, 40), 1);
        CHECK.due("count(5) of 40", x.count(5), 40);
        CHECK.due("sheet(0, 0, lowest)", x.sheet(0, 0, Integer.MIN_VALUE), -14);
        CHECK.due("count(5) stays", x.count(5), 40);
        CHECK.due("sheet(3, 1, 2)", x.sheet(3, 1, 2), 1);
        CHECK.due("count(5) is of sheet 0", x.count(5), 40);
    }

    private static void promise39Lay() {
        RiverSuit x = Told.suit(THREE);
        CHECK.due("lay(-1, 0, 0)", x.lay(-1, 0, 0), RiverSuit.BAD);
        CHECK.due("lay(4, 0, 0)", x.lay(4, 0, 0), RiverSuit.BAD);
        CHECK.due("lay(2, 0, 0) on nothing", x.lay(2, 0, 0), -11);
        CHECK.due("lay(2, -1, 0) on nothing", x.lay(2, -1, 0), -11);
        x.sheet(2, 1, 3);
        CHECK.due("lay(2, -1, 0)", x.lay(2, -1, 0), -12);
        CHECK.due("lay(2, 3, 0)", x.lay(2, 3, 0), -12);
        CHECK.due("lay(2, 2, 0)", x.lay(2, 2, 0), 1);
        CHECK.due("lay(2, 0, 9)", x.lay(2, 0, 9), 1);
        x.sheet(2, 1, 3);
        CHECK.due("a new row has cells 0", x.read(2, 1, 0, 1), 1);
        CHECK.due("0 was said", x.rule(3), 1);
        x.sheet(1, 0, 0);
        CHECK.due("lay(1, 0, 0) on no cells", x.lay(1, 0, 0), -12);
    }

    private static void promise40Read() {
        RiverSuit x = Told.suit(THREE + "day 2;");
        x.sheet(0, 0, 4);
        x.lay(0, 1, 2);
        x.lay(0, 2, 1);
        CHECK.due("read(-1, 0, 0, 1)", x.read(-1, 0, 0, 1), RiverSuit.BAD);
        CHECK.due("read(4, 0, 0, 1)", x.read(4, 0, 0, 1), RiverSuit.BAD);
        CHECK.due("read(0, -1, 0, 1)", x.read(0, -1, 0, 1), RiverSuit.BAD);
        CHECK.due("read(0, 3, 0, 1)", x.read(0, 3, 0, 1), RiverSuit.BAD);
        CHECK.due("read(0, 0, 0, -1)", x.read(0, 0, 0, -1), RiverSuit.BAD);
        CHECK.due("read(0, 0, 0, 21)", x.read(0, 0, 0, 21), RiverSuit.BAD);
        CHECK.due("nothing was said", x.rule(3), 0);
        CHECK.due("read(0, 0, 1, 2)", x.read(0, 0, 1, 2), 2);
        CHECK.due("rule(3)", x.rule(3), 0b110);
        CHECK.due("torn()", x.torn(), 0);
        CHECK.due("read(0, 0, 3, 20) to the edge", x.read(0, 0, 3, 20), 1);
        CHECK.due("rule(3) with those ahead", x.rule(3), 0b111);
        CHECK.due("torn() by the edge", x.torn(), 2);
        CHECK.due("read(0, 0, 0, 0)", x.read(0, 0, 0, 0), 0);
        CHECK.due("torn() of none", x.torn(), 0);
        CHECK.due("read(0, 0, -1, 3)", x.read(0, 0, -1, 3), 0);
        CHECK.due("torn() ahead of the row", x.torn(), 2);
        CHECK.due("read far behind", x.read(0, 0, Integer.MAX_VALUE, 20), 0);
        CHECK.due("torn() far behind", x.torn(), 2);
        CHECK.due("read far ahead", x.read(0, 0, Integer.MIN_VALUE, 20), 0);
    }

    private static void promise40ReadRefused() {
        RiverSuit x = Told.suit(THREE + "day 2;");
        x.sheet(0, 2, 3);
        x.lay(0, 0, 1);
        x.lay(0, 2, 1);
        CHECK.due("said twice", x.read(0, 2, 0, 3), -22);
        CHECK.due("none came", x.rule(3), 0);
        x.lay(0, 2, 3);
        CHECK.due("no such claim", x.read(0, 2, 0, 20), -22);
        CHECK.due("none came", x.rule(3), 0);
        x.lay(0, 0, -1);
        CHECK.due("below 0", x.read(0, 2, 0, 3), -20);
        x.lay(0, 0, 2);
        x.day(3);
        CHECK.due("not in time", x.read(0, 2, 0, 3), -20);
        x.say(0);
        x.lay(0, 0, 1);
        CHECK.due("said already", x.read(0, 2, 0, 2), -21);
        CHECK.due("what was said stays", x.rule(3), 1);
    }

    private static void promise40ReadOfLanes() {
        int[] low = {256, 65536, 0};
        for (int lane = 0; lane < 3; lane++) {
            RiverSuit x = Told.suit(THREE + "day 2;");
            x.sheet(3, lane, 2);
            x.lay(3, 0, low[lane] + 2);
            x.lay(3, 1, low[lane] / 2);
            CHECK.due("the lowest bits, lane " + lane, x.read(3, lane, 0, 1), 1);
            CHECK.due("rule(3), lane " + lane, x.rule(3), 0b100);
            CHECK.due("the sign, lane " + lane, x.read(3, lane, 1, 1), lane == 2 ? 1 : -20);
            for (int other = 0; other < 3; other++) {
                CHECK.due("lane " + lane + " as " + other, x.read(3, other, 5, 1), 0);
                CHECK.due("torn() of lane " + lane + " as " + other, x.torn(), other == lane ? 2 : 3);
                CHECK.due("nothing as " + other, x.read(1, other, -1, 1), 0);
                CHECK.due("torn() of nothing as " + other, x.torn(), 1);
            }
        }
        RiverSuit y = Told.suit(THREE);
        y.sheet(0, 1, 1);
        y.lay(0, 0, 256);
        CHECK.due("a short keeps more than a byte", y.read(0, 1, 0, 1), -20);
        y.sheet(0, 2, 1);
        y.lay(0, 0, 65536);
        CHECK.due("an int keeps more than a short", y.read(0, 2, 0, 1), -20);
    }

    private static void promise41Torn() {
        RiverSuit x = Told.suit(THREE);
        CHECK.due("torn() first", x.torn(), 0);
        x.read(0, 0, 0, 1);
        CHECK.due("torn() of nothing", x.torn(), 1);
        x.sheet(0, 0, 1);
        CHECK.due("torn() stays", x.torn(), 1);
        x.lay(0, 0, 7);
        CHECK.due("a read that is refused", x.read(0, 0, 0, 1), -20);
        CHECK.due("torn() is not of it", x.torn(), 1);
        x.read(0, 0, 0, 21);
        CHECK.due("torn() is not of a bad one", x.torn(), 1);
        x.read(0, 1, 0, 1);
        CHECK.due("torn() of another lane", x.torn(), 3);
        x.sheet(0, 0, -1);
        CHECK.due("torn() is not of a sheet", x.torn(), 3);
        x.lay(0, 0, 0);
        x.read(0, 0, 0, 1);
        CHECK.due("torn() of a read without fault", x.torn(), 0);
    }

    private static void promise42Count() {
        RiverSuit x = Told.suit(THREE + "said 0;said 1;said 2;");
        CHECK.due("count(-1)", x.count(-1), RiverSuit.BAD);
        CHECK.due("count(6)", x.count(6), RiverSuit.BAD);
        CHECK.due("count(0)", x.count(0), 3);
        CHECK.due("count(1)", x.count(1), 2);
        x.see(0, false);
        CHECK.due("count(2)", x.count(2), 1);
        x.keep(1);
        CHECK.due("count(3)", x.count(3), 1);
        x.feed(0);
        CHECK.due("count(4)", x.count(4), 1);
        CHECK.due("count(5)", x.count(5), RiverSuit.NONE);
        x.sheet(1, 0, 7);
        CHECK.due("count(5) is of sheet 0", x.count(5), RiverSuit.NONE);
        x.sheet(0, 0, 7);
        CHECK.due("count(5) then", x.count(5), 7);
    }
}
