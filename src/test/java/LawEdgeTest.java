/** The edges of promises 32 to 35: what was seen (6), which sets fit, trials by a seed. */
public final class LawEdgeTest {
    private static final Check CHECK = new Check("LawEdgeTest");
    private static final Twin NO_CLAIMS = new Twin(CHECK, "no claims", Some::none);
    private static final Twin ORDINARY = new Twin(CHECK, "ordinary", Some::ordinary);
    private static final Twin FULL = new Twin(CHECK, "full", Some::full);
    private static final int BAD = RiverSuit.BAD, STATE = RiverSuit.STATE, NONE = RiverSuit.NONE;
    private static final int[] SEEDS = {0, 1, -1, 2, 7, 12345, 65535, 65536, 1 << 30, Integer.MAX_VALUE,
        Integer.MIN_VALUE, Integer.MIN_VALUE + 1, -65536, 1103515245, -1103515245, 0x5DEECE6D, 314159265};

    public static void main(String[] args) {
        promise32Sets();
        promise32SixAtMost();
        promise32WithoutClaims();
        promise33FirstOfThoseSeen();
        promise33NoMoreThanThereAre();
        promise34What();
        promise34NoClaims();
        promise34NoneFits();
        promise34LesserNumbersThanTheEnd();
        promise34NoneOfThoseOnWhichItLeans();
        promise34AsSeen();
        promise34SixSeen();
        promise35Times();
        promise35What();
        promise35NoClaims();
        promise35TheSeedWrapsAround();
        promise35ModuloClaims();
        promise35ByItself();
        promise35InTimeOrNot();
        CHECK.close();
    }

    /** 'SEEN: a set (bits), whether THE END STOOD: how many are. BAD'. */
    private static void promise32Sets() {
        for (boolean is : new boolean[] {true, false}) {
            NO_CLAIMS.bad("see(set, " + is + ")", (x, set) -> x.see(set, is), 0, 0);
            ORDINARY.bad("see(set, " + is + ")", (x, set) -> x.see(set, is), 0, 7);
            FULL.bad("see(set, " + is + ")", (x, set) -> x.see(set, is), 0, 255);
        }
        for (int many = 0; many <= 8; many++) {
            RiverSuit x = Told.suit(Some.alike(many));
            CHECK.due("see(0) of " + many, x.see(0, false), 1);
            CHECK.due("see of all of " + many, x.see((1 << many) - 1, true), 2);
            CHECK.due("see of one too many of " + many, x.see(1 << many, true), BAD);
            CHECK.due("count(2)", x.count(2), 2);
        }
    }

    /** 'SEEN (6)'; 'FULL.' */
    private static void promise32SixAtMost() {
        RiverSuit x = Told.suit(Some.THREE);
        for (int i = 1; i <= 6; i++) {
            CHECK.due("see of the " + i + "th", x.see(0b011, false), i);
        }
        CHECK.due("see of the 7th", x.see(0b011, false), RiverSuit.FULL);
        CHECK.due("count(2)", x.count(2), 6);
        x.forget(5);
        CHECK.due("see where one was forgotten", x.see(0b011, false), 6);
        CHECK.due("see of one too many", x.see(0b011, false), RiverSuit.FULL);
        FULL.keeps("see(0, false)", y -> y.see(0, false), RiverSuit.FULL);
        FULL.keeps("see(0, true)", y -> y.see(0, true), RiverSuit.FULL);
        FULL.keeps("see(255, true)", y -> y.see(255, true), RiverSuit.FULL);
    }

    private static void promise32WithoutClaims() {
        RiverSuit x = new RiverSuit();
        for (int i = 1; i <= 6; i++) {
            CHECK.due("see(0) of no claims", x.see(0, i % 2 == 0), i);
        }
        CHECK.due("see(0) of the 7th", x.see(0, true), RiverSuit.FULL);
        CHECK.due("see(1) of no claims", x.see(1, true), BAD);
    }

    /** 'SEEN are the first n alone: how many there were.' */
    private static void promise33FirstOfThoseSeen() {
        // Of four claims alike each of these takes half of what fits: 8, 4, 2, 1; the last leaves none.
        int[] sets = {0b1001, 0b1010, 0b1100, 0b1000};
        RiverSuit x = Told.suit(Some.alike(4));
        for (int i = 0; i < 3; i++) {
            x.see(sets[i], true);
        }
        x.see(sets[3], false);
        CHECK.due("fits(0) by four", x.fits(0), 0);
        CHECK.due("forget(4)", x.forget(4), 4);
        CHECK.due("fits(0) by four still", x.fits(0), 0);
        CHECK.due("forget(3)", x.forget(3), 4);
        CHECK.due("fits(0) by three", x.fits(0), 1);
        CHECK.due("forget(2)", x.forget(2), 3);
        CHECK.due("fits(0) by two", x.fits(0), 2);
        CHECK.due("fits(3) by the first two", x.fits(3), 0b0011);
        CHECK.due("forget(1)", x.forget(1), 2);
        CHECK.due("fits(3) by the first", x.fits(3), 0b0001);
        CHECK.due("see behind it", x.see(0b1100, false), 2);
        CHECK.due("fits(2) by another", x.fits(2), 0b0100);
        CHECK.due("forget(0)", x.forget(0), 2);
        CHECK.due("fits(0) by none", x.fits(0), 8);
        CHECK.due("forget(0) again", x.forget(0), 0);
    }

    private static void promise33NoMoreThanThereAre() {
        NO_CLAIMS.bad("forget", RiverSuit::forget, 0, 0);
        ORDINARY.bad("forget", RiverSuit::forget, 0, 2);
        FULL.bad("forget", RiverSuit::forget, 0, 6);
        NO_CLAIMS.keeps("forget(0)", x -> x.forget(0), 0);
        ORDINARY.keeps("forget(2)", x -> x.forget(2), 2);
        FULL.keeps("forget(6)", x -> x.forget(6), 6);
    }

    private static void promise34What() {
        NO_CLAIMS.bad("fits", RiverSuit::fits, 0, 3);
        ORDINARY.bad("fits", RiverSuit::fits, 0, 3);
        FULL.bad("fits", RiverSuit::fits, 0, 3);
    }

    /** 'STATE: there are no CLAIMS.' */
    private static void promise34NoClaims() {
        RiverSuit x = new RiverSuit();
        fits(x, STATE, STATE, STATE, STATE);
        x.see(0, true);
        fits(x, STATE, STATE, STATE, STATE);
    }

    /** 'how many (what 0) .. NONE (1 to 3): none'. */
    private static void promise34NoneFits() {
        RiverSuit x = Told.suit(Some.alike(3));
        x.see(0b011, true);
        fits(x, 0, NONE, NONE, NONE);
        RiverSuit y = Told.suit(Some.alike(3));
        y.see(0b100, false);
        fits(y, 0, NONE, NONE, NONE);
        RiverSuit z = Told.suit(Some.alike(3));
        z.see(0b101, true);
        z.see(0b101, false);
        fits(z, 0, NONE, NONE, NONE);
    }

    /** 'A set of CLAIMS of lesser numbers than THE END': from one set, of none, to 128. */
    private static void promise34LesserNumbersThanTheEnd() {
        RiverSuit x = Told.suit(Some.alike(8));
        for (int end = 0; end < 8; end++) {
            x.aim(end);
            fits(x, 1 << end, 0, 0, 0);
        }
        x.see(255, false);
        for (int end = 0; end < 8; end++) {
            x.aim(end);
            int many = (1 << end) - 1;
            int all = end == 1 ? 1 : 0;
            fits(x, many, many == 0 ? NONE : 1, many == 0 ? NONE : all, many == 0 ? NONE : 0);
        }
        x.forget(0);
        x.see(255, true);
        for (int end = 0; end < 8; end++) {
            x.aim(end);
            fits(x, 1, 0, 0, (1 << end) - 1);
        }
    }

    /** 'none of those on which it LEANS'. */
    private static void promise34NoneOfThoseOnWhichItLeans() {
        RiverSuit x = Told.suit(Some.alike(7) + "ferry0 9 1 0 1 2 3 4 5 6;");
        fits(x, 1, 0, 0, 0);
        x.see(255, true);
        fits(x, 1, 0, 0, 0);
        x.leans(7, 3, false);
        fits(x, 1, 0, 0, 0b0001000);
        x.forget(0);
        fits(x, 2, 0, 0, 0);
        x.see(255, false);
        fits(x, 1, 0b0001000, 0b0001000, 0);
    }

    /** 'did it FALL by just these, all would be as SEEN': in place of what it falls by; by what STANDS of the set. */
    private static void promise34AsSeen() {
        // 1 falls by 0; the end, 3, falls by 0 and 2, which is not asked for.
        RiverSuit x = Told.suit("river0 9 1;river0 9 1 unless 0;river0 9 1;river0 9 1 unless 0 2;");
        fits(x, 8, 0, 0, 0);
        x.see(0b1011, false);
        fits(x, 4, 0b001, 0b001, 0);
        x.see(0b1110, true);
        fits(x, 1, 0b001, 0b001, 0b110);
        CHECK.due("what it falls by stays", x.claim(3, 5), 0b101);
        x.forget(0);
        x.see(0b1010, false);
        fits(x, 4, 0b010, 0b010, 0);
        x.see(0b0111, false);
        fits(x, 4, 0b010, 0b010, 0);
        x.see(0b1000, true);
        fits(x, 4, 0b010, 0b010, 0);
    }

    private static void promise34SixSeen() {
        RiverSuit x = Told.suit(Some.alike(8));
        for (int i = 0; i < 6; i++) {
            x.see(128 | 1 << i, i % 2 == 0);
        }
        fits(x, 2, 0b0101010, 0b0101010, 0b0010101);
        x.forget(5);
        fits(x, 4, 0b0001010, 0b0001010, 0b0010101);
    }

    private static void fits(RiverSuit x, int many, int least, int inAll, int inNone) {
        CHECK.due("fits(0)", x.fits(0), many);
        CHECK.due("fits(1)", x.fits(1), least);
        CHECK.due("fits(2)", x.fits(2), inAll);
        CHECK.due("fits(3)", x.fits(3), inNone);
    }

    /** 'n times (1 to 60)'. */
    private static void promise35Times() {
        for (int what = 0; what <= 1; what++) {
            int w = what;
            NO_CLAIMS.bad("drift(7, n, " + w + ")", (x, n) -> x.drift(7, n, w), 1, 60);
            ORDINARY.bad("drift(7, n, " + w + ")", (x, n) -> x.drift(7, n, w), 1, 60);
            FULL.bad("drift(7, n, " + w + ")", (x, n) -> x.drift(7, n, w), 1, 60);
        }
        // One claim: said, not said, and so on; it stands behind every other time.
        RiverSuit x = Told.suit("river 0 0 0;");
        for (int n = 1; n <= 60; n++) {
            CHECK.due("drift(7, " + n + ", 0)", x.drift(7, n, 0), (n + 1) / 2);
            CHECK.due("drift(7, " + n + ", 1)", x.drift(7, n, 1), n % 2);
        }
    }

    private static void promise35What() {
        for (int seed : new int[] {0, Integer.MIN_VALUE, Integer.MAX_VALUE}) {
            NO_CLAIMS.bad("drift(" + seed + ", 1, what)", (x, what) -> x.drift(seed, 1, what), 0, 1);
            ORDINARY.bad("drift(" + seed + ", 60, what)", (x, what) -> x.drift(seed, 60, what), 0, 1);
        }
    }

    /** 'STATE: there are no CLAIMS.' */
    private static void promise35NoClaims() {
        for (int seed : SEEDS) {
            CHECK.due("drift(" + seed + ", 1, 0) of no claims", new RiverSuit().drift(seed, 1, 0), STATE);
            CHECK.due("drift(" + seed + ", 60, 1) of no claims", new RiverSuit().drift(seed, 60, 1), STATE);
        }
    }

    /** 'the seed becomes seed times 1103515245 and 12345; bits 16 to 30 of it'. */
    private static void promise35TheSeedWrapsAround() {
        RiverSuit x = Told.suit(Some.alike(7));
        // 0 becomes 12345, of which bits 16 to 30 are 0; 1 becomes 1103527590, 16838 of them, 3 by 7;
        // -1 becomes 3191464396, bit 31 away 15929 of them, 4 by 7.
        CHECK.due("drift(0, 1, 1)", x.drift(0, 1, 1), 1);
        CHECK.due("drift(1, 1, 1)", x.drift(1, 1, 1), 1 << 3);
        CHECK.due("drift(-1, 1, 1)", x.drift(-1, 1, 1), 1 << 4);
        for (int seed : SEEDS) {
            drifts(x, 7, seed);
        }
    }

    /** 'modulo CLAIMS', of which there are 1 to 8. */
    private static void promise35ModuloClaims() {
        for (int many = 1; many <= 8; many++) {
            RiverSuit x = Told.suit(Some.alike(many));
            for (int seed : SEEDS) {
                drifts(x, many, seed);
            }
        }
    }

    /** As the document tells it, in long numbers that do not wrap around. */
    private static void drifts(RiverSuit x, int many, int seed) {
        long next = seed & 0xFFFFFFFFL;
        int said = 0;
        int often = 0;
        for (int n = 1; n <= 60; n++) {
            next = (next * 1103515245L + 12345L) % 4294967296L;
            said ^= 1 << next / 65536 % 32768 % many;
            often += said >> many - 1 & 1;
            if (n == 1 || n == 2 || n == 60) {
                CHECK.due("drift(" + seed + ", " + n + ", 0) of " + many, x.drift(seed, n, 0), often);
                CHECK.due("drift(" + seed + ", " + n + ", 1) of " + many, x.drift(seed, n, 1), said);
            }
        }
    }

    /** 'By itself': what is SAID begins it, and stays. */
    private static void promise35ByItself() {
        RiverSuit x = Told.suit("river 0 9 0;said 0;");
        CHECK.due("drift(7, 1, 0) of what was said", x.drift(7, 1, 0), 0);
        CHECK.due("drift(7, 1, 1) of what was said", x.drift(7, 1, 1), 0);
        CHECK.due("drift(7, 2, 0) of what was said", x.drift(7, 2, 0), 1);
        CHECK.due("drift(7, 60, 1) of what was said", x.drift(7, 60, 1), 1);
        CHECK.due("it is said still", x.rule(3), 1);
        for (int what = 0; what <= 1; what++) {
            int w = what;
            ORDINARY.unchanged("drift(7, 59, " + w + ")", y -> y.drift(7, 59, w));
            FULL.unchanged("drift(7, 60, " + w + ")", y -> y.drift(7, 60, w));
        }
    }

    /** 'that one is SAID (IN TIME or not), or, if it was, not: how often THE END STANDS behind it'. */
    private static void promise35InTimeOrNot() {
        RiverSuit x = Told.suit("river 0 0 0;river 9 9 0 unless 0;day 5;");
        // By the seed 1 bits 16 to 30 are even, odd, even: 0 is said, 1 is, 0 is not.
        CHECK.due("drift(1, 1, 1)", x.drift(1, 1, 1), 0b01);
        CHECK.due("drift(1, 2, 1)", x.drift(1, 2, 1), drift(1, 2));
        CHECK.due("drift(1, 3, 1)", x.drift(1, 3, 1), drift(1, 3));
        CHECK.due("drift(1, 2, 0)", x.drift(1, 2, 0), 0);
    }

    /** What stands of two, of which 1 falls by 0. */
    private static int drift(int seed, int n) {
        long next = seed;
        int said = 0;
        for (int i = 0; i < n; i++) {
            next = (next * 1103515245L + 12345L) % 4294967296L;
            said ^= 1 << next / 65536 % 32768 % 2;
        }
        return (said & 1) == 1 ? 1 : said;
    }
}
