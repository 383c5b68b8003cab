/** Promises 32 to 35: which law it was, trials by a seed. */
public final class LawTest {
    private static final Check CHECK = new Check("LawTest");
    /** 3, the end, leans on 0 and falls by 1; 2 falls by 1. */
    private static final String FOUR = "river 0 0 0;river 0 0 0;river 0 0 0 unless 1;river 0 0 0 0 unless 1;";

    public static void main(String[] args) {
        promise32See();
        promise33Forget();
        promise34Fits();
        promise34FitsHangOnTheEnd();
        promise35Drift();
        CHECK.close();
    }

    private static void promise32See() {
        RiverSuit x = Told.suit(FOUR);
        CHECK.due("see(-1)", x.see(-1, true), RiverSuit.BAD);
        CHECK.due("see(16)", x.see(16, true), RiverSuit.BAD);
        CHECK.due("see(0)", x.see(0, false), 1);
        CHECK.due("see(15)", x.see(15, false), 2);
        CHECK.due("see(15) again, otherwise", x.see(15, true), 3);
        for (int i = 4; i <= 6; i++) {
            CHECK.due("see(1)", x.see(1, false), i);
        }
        CHECK.due("see(1) of the 7th", x.see(1, false), RiverSuit.FULL);
        CHECK.due("see(16) when full", x.see(16, false), RiverSuit.BAD);
        CHECK.due("count(2)", x.count(2), 6);
        CHECK.due("see(0) of none", new RiverSuit().see(0, true), 1);
        CHECK.due("see(1) of none", new RiverSuit().see(1, true), RiverSuit.BAD);
    }

    private static void promise33Forget() {
        RiverSuit x = Told.suit(FOUR);
        CHECK.due("forget(0) of none", x.forget(0), 0);
        CHECK.due("forget(1) of none", x.forget(1), RiverSuit.BAD);
        x.see(0b1011, true);
        x.see(0b1000, true);
        CHECK.due("none fit", x.fits(0), 0);
        CHECK.due("forget(-1)", x.forget(-1), RiverSuit.BAD);
        CHECK.due("forget(3)", x.forget(3), RiverSuit.BAD);
        CHECK.due("forget(2)", x.forget(2), 2);
        CHECK.due("forget(1)", x.forget(1), 2);
        CHECK.due("count(2)", x.count(2), 1);
        CHECK.due("the first stays", x.fits(3), 0b0010);
        CHECK.due("another in its place", x.see(0b1000, false), 2);
        CHECK.due("it stood not", x.fits(0), 2);
        CHECK.due("forget(0)", x.forget(0), 2);
    }

    private static void promise34Fits() {
        RiverSuit x = Told.suit(FOUR);
        CHECK.due("fits(-1)", x.fits(-1), RiverSuit.BAD);
        CHECK.due("fits(4)", x.fits(4), RiverSuit.BAD);
        fits(x, 4, 0, 0, 0);
        x.see(0b1101, false);
        fits(x, 2, 0b0100, 0b0100, 0);
        x.see(0b1011, true);
        fits(x, 1, 0b0100, 0b0100, 0b0010);
        x.see(0b1111, true);
        fits(x, 1, 0b0100, 0b0100, 0b0010);
        x.see(0b0111, false);
        fits(x, 1, 0b0100, 0b0100, 0b0010);
        x.see(0b1000, true);
        fits(x, 0, RiverSuit.NONE, RiverSuit.NONE, RiverSuit.NONE);
        CHECK.due("the law stays", x.claim(3, 5), 0b0010);
        RiverSuit none = new RiverSuit();
        fits(none, RiverSuit.STATE, RiverSuit.STATE, RiverSuit.STATE, RiverSuit.STATE);
        CHECK.due("fits(4) of none", none.fits(4), RiverSuit.BAD);
    }

    private static void promise34FitsHangOnTheEnd() {
        RiverSuit x = Told.suit(FOUR + "end 2;");
        fits(x, 4, 0, 0, 0);
        x.see(0b0111, false);
        fits(x, 3, 1, 0, 0);
        x.see(0b0101, true);
        fits(x, 1, 2, 2, 1);
        x.aim(0);
        fits(x, 0, RiverSuit.NONE, RiverSuit.NONE, RiverSuit.NONE);
        x.forget(0);
        fits(x, 1, 0, 0, 0);
        RiverSuit eight = Told.suit("river 0 0 0;river 0 0 0;river 0 0 0;river 0 0 0;"
                + "river 0 0 0;river 0 0 0;river 0 0 0;river 0 0 0;");
        fits(eight, 128, 0, 0, 0);
        eight.see(0b11111111, false);
        fits(eight, 127, 1, 0, 0);
        eight.see(0b10000001, false);
        fits(eight, 64, 1, 1, 0);
        eight.see(0b11000000, true);
        fits(eight, 32, 1, 1, 0b01000000);
    }

    private static void fits(RiverSuit x, int many, int least, int inAll, int inNone) {
        CHECK.due("fits(0)", x.fits(0), many);
        CHECK.due("fits(1)", x.fits(1), least);
        CHECK.due("fits(2)", x.fits(2), inAll);
        CHECK.due("fits(3)", x.fits(3), inNone);
    }

    private static void promise35Drift() {
        RiverSuit x = Told.suit("river 0 0 0;river 0 0 0 0;river 0 0 0 unless 1;day 9;");
        CHECK.due("drift(7, 0, 0)", x.drift(7, 0, 0), RiverSuit.BAD);
        CHECK.due("drift(7, 61, 0)", x.drift(7, 61, 0), RiverSuit.BAD);
        CHECK.due("drift(7, 1, -1)", x.drift(7, 1, -1), RiverSuit.BAD);
        CHECK.due("drift(7, 1, 2)", x.drift(7, 1, 2), RiverSuit.BAD);
        // By the seed 7 the claims 1, 2, 2, 0, 2, 2, 0, 2 come; by -1 2, 2, 1, 0, 1, 2, 2, 2; by 1 2, 1, 0.
        drift(x, 7, 1, 0, 0);
        drift(x, 7, 2, 1, 0b100);
        drift(x, 7, 5, 1, 0b011);
        drift(x, 7, 8, 2, 0b100);
        drift(x, -1, 8, 3, 0b101);
        drift(x, 1, 3, 2, 0b011);
        drift(x, Integer.MIN_VALUE, 1, 0, 0b001);
        CHECK.due("nothing is said by that", x.rule(3), 0);
        RiverSuit y = Told.suit("river 0 0 0;river 0 0 0 0;river 0 0 0 unless 1;said 2;said 0;");
        drift(y, 7, 3, 0, 0b011);
        drift(y, 1, 1, 0, 0b001);
        CHECK.due("drift(42, 60, 1) ends", x.drift(42, 60, 1) >= 0 ? 1 : 0, 1);
        CHECK.due("drift(7, 1, 0) of none", new RiverSuit().drift(7, 1, 0), RiverSuit.STATE);
        CHECK.due("drift(7, 0, 0) of none", new RiverSuit().drift(7, 0, 0), RiverSuit.BAD);
    }

    private static void drift(RiverSuit x, int seed, int n, int often, int standing) {
        CHECK.due("drift(" + seed + ", " + n + ", 0)", x.drift(seed, n, 0), often);
        CHECK.due("drift(" + seed + ", " + n + ", 1)", x.drift(seed, n, 1), standing);
    }
}
