/** The edges of the document's 'Terms': the answers and their order, what is refused, what only looks, fractions. */
public final class TermsEdgeTest {
    private static final Check CHECK = new Check("TermsEdgeTest");
    private static final Twin NONE = new Twin(CHECK, "no claims", Some::none);
    private static final Twin ORDINARY = new Twin(CHECK, "ordinary", Some::ordinary);
    private static final Twin FULL = new Twin(CHECK, "full", Some::full);
    private static final Twin FULL_TAPE = new Twin(CHECK, "full tape", Some::fullTape);
    private static final int BAD = RiverSuit.BAD, STATE = RiverSuit.STATE;

    public static void main(String[] args) {
        badIsAheadOfFull();
        badIsAheadOfState();
        badIsAheadOfNone();
        stateIsAheadOfNone();
        badIsAheadOfTheMachinesFaults();
        lookingChangesNothing(ORDINARY);
        lookingChangesNothing(FULL);
        lookingChangesNothing(NONE);
        fractionsAreInLowestTerms();
        noneAtFirst();
        CHECK.close();
    }

    /** 'the first that fits': BAD stands ahead of FULL. */
    private static void badIsAheadOfFull() {
        FULL_TAPE.keeps("feed(127)", x -> x.feed(127), RiverSuit.FULL);
        FULL_TAPE.keeps("feed(128)", x -> x.feed(128), BAD);
        FULL_TAPE.keeps("feed(-1)", x -> x.feed(-1), BAD);
        FULL.keeps("plans(7)", x -> x.plans(7), RiverSuit.FULL);
        FULL.keeps("plans(8)", x -> x.plans(8), BAD);
        FULL.keeps("plans(-1)", x -> x.plans(-1), BAD);
        FULL.keeps("see(255, true)", x -> x.see(255, true), RiverSuit.FULL);
        FULL.keeps("see(256, true)", x -> x.see(256, true), BAD);
        FULL.keeps("see(-1, true)", x -> x.see(-1, true), BAD);
    }

    /** 'the first that fits': BAD stands ahead of STATE. */
    private static void badIsAheadOfState() {
        NONE.keeps("luck(10, 1)", x -> x.luck(10, 1), STATE);
        NONE.keeps("luck(11, 1)", x -> x.luck(11, 1), BAD);
        NONE.keeps("luck(0, 2)", x -> x.luck(0, 2), BAD);
        NONE.keeps("game(1)", x -> x.game(1), STATE);
        NONE.keeps("game(2)", x -> x.game(2), BAD);
        NONE.keeps("fits(3)", x -> x.fits(3), STATE);
        NONE.keeps("fits(4)", x -> x.fits(4), BAD);
        NONE.keeps("drift(0, 60, 1)", x -> x.drift(0, 60, 1), STATE);
        NONE.keeps("drift(0, 61, 1)", x -> x.drift(0, 61, 1), BAD);
        NONE.keeps("drift(0, 0, 1)", x -> x.drift(0, 0, 1), BAD);
        NONE.keeps("drift(0, 60, 2)", x -> x.drift(0, 60, 2), BAD);
        NONE.keeps("back(1)", x -> x.back(1), STATE);
        NONE.keeps("back(2)", x -> x.back(2), BAD);
        // Claim 2 falls by 1; what is no lesser number is BAD, whether it would lean or not.
        ORDINARY.keeps("leans(2, 1, true)", x -> x.leans(2, 1, true), STATE);
        ORDINARY.keeps("leans(1, 2, true)", x -> x.leans(1, 2, true), BAD);
        ORDINARY.keeps("falls(1, 0, true)", x -> x.falls(1, 0, true), STATE);
        ORDINARY.keeps("falls(0, 1, true)", x -> x.falls(0, 1, true), BAD);
    }

    /** 'the first that fits': BAD stands ahead of NONE. */
    private static void badIsAheadOfNone() {
        NONE.keeps("few(1)", x -> x.few(1), RiverSuit.NONE);
        NONE.keeps("few(2)", x -> x.few(2), BAD);
        NONE.keeps("foil(1)", x -> x.foil(1), RiverSuit.NONE);
        NONE.keeps("foil(2)", x -> x.foil(2), BAD);
        NONE.keeps("trial(1)", x -> x.trial(1), RiverSuit.NONE);
        NONE.keeps("trial(4)", x -> x.trial(4), BAD);
        NONE.keeps("rule(1)", x -> x.rule(1), RiverSuit.NONE);
        NONE.keeps("rule(6)", x -> x.rule(6), BAD);
        NONE.keeps("count(5)", x -> x.count(5), RiverSuit.NONE);
        NONE.keeps("count(6)", x -> x.count(6), BAD);
    }

    /** 'the first that fits': where there are no claims, fits() has STATE ahead of NONE. */
    private static void stateIsAheadOfNone() {
        for (int what = 0; what <= 3; what++) {
            int w = what;
            NONE.keeps("fits(" + w + ")", x -> x.fits(w), STATE);
        }
    }

    private static void badIsAheadOfTheMachinesFaults() {
        ORDINARY.keeps("sheet(0, 0, -1)", x -> x.sheet(0, 0, -1), -14);
        ORDINARY.keeps("sheet(4, 0, -1)", x -> x.sheet(4, 0, -1), BAD);
        ORDINARY.keeps("sheet(-1, 0, -1)", x -> x.sheet(-1, 0, -1), BAD);
        ORDINARY.keeps("sheet(0, 3, -1)", x -> x.sheet(0, 3, -1), BAD);
        ORDINARY.keeps("sheet(0, -1, -1)", x -> x.sheet(0, -1, -1), BAD);
        ORDINARY.keeps("lay(1, 0, 0)", x -> x.lay(1, 0, 0), -11);
        ORDINARY.keeps("lay(4, -1, 0)", x -> x.lay(4, -1, 0), BAD);
        ORDINARY.keeps("lay(-1, -1, 0)", x -> x.lay(-1, -1, 0), BAD);
        ORDINARY.keeps("read(1, 3, -1, 1)", x -> x.read(1, 3, -1, 1), BAD);
        ORDINARY.keeps("read(1, 0, -1, 21)", x -> x.read(1, 0, -1, 21), BAD);
        ORDINARY.keeps("read(4, 0, -1, 1)", x -> x.read(4, 0, -1, 1), BAD);
    }

    /** What a call only asks is asked 'by itself': it tells, and changes nothing. */
    private static void lookingChangesNothing(Twin twin) {
        twin.unchanged("fault()", RiverSuit::fault);
        twin.unchanged("torn()", RiverSuit::torn);
        twin.unchanged("late()", RiverSuit::late);
        twin.unchanged("days()", RiverSuit::days);
        for (int what = 0; what <= 6; what++) {
            int w = what;
            twin.unchanged("rule(" + w + ")", x -> x.rule(w));
            twin.unchanged("claim(0, " + w + ")", x -> x.claim(0, w));
            twin.unchanged("plan(" + w + ")", x -> x.plan(w));
            twin.unchanged("count(" + w + ")", x -> x.count(w));
            twin.unchanged("stands(" + w + ")", x -> x.stands(w));
            twin.unchanged("chain(" + w + ")", x -> x.chain(w));
            twin.unchanged("upon(" + w + ")", x -> x.upon(w));
            twin.unchanged("luck(" + w + ", 0)", x -> x.luck(w, 0));
            twin.unchanged("share(" + w + ", 1)", x -> x.share(w, 1));
        }
        for (int what = 0; what <= 3; what++) {
            int w = what;
            twin.unchanged("sum(" + w + ")", x -> x.sum(w));
            twin.unchanged("reply(1, " + w + ")", x -> x.reply(1, w));
            twin.unchanged("ever(" + w + ")", x -> x.ever(w));
            twin.unchanged("few(" + w + ")", x -> x.few(w));
            twin.unchanged("foil(" + w + ")", x -> x.foil(w));
            twin.unchanged("trial(" + w + ")", x -> x.trial(w));
            twin.unchanged("game(" + w + ")", x -> x.game(w));
            twin.unchanged("fits(" + w + ")", x -> x.fits(w));
            twin.unchanged("drift(7, 59, " + w + ")", x -> x.drift(7, 59, w));
        }
    }

    /** 'Fractions are in lowest terms, the denominator above 0 (0 is 0 by 1).' */
    private static void fractionsAreInLowestTerms() {
        RiverSuit x = Told.suit("river 0 9 1;river 0 9 1 unless 0;plan 1;plan 0;");
        fraction("luck(0)", x.luck(0, 0), x.luck(0, 1), 0, 1);
        fraction("luck(10)", x.luck(10, 0), x.luck(10, 1), 0, 1);
        // 1 comes and 0 does not: 5 by 10 times 5 by 10; 2 times 8; 8 times 2.
        fraction("luck(5)", x.luck(5, 0), x.luck(5, 1), 1, 4);
        fraction("luck(2)", x.luck(2, 0), x.luck(2, 1), 4, 25);
        fraction("luck(8)", x.luck(8, 0), x.luck(8, 1), 4, 25);
        fraction("luck(1)", x.luck(1, 0), x.luck(1, 1), 9, 100);
        fraction("share(0)", x.share(0, 0), x.share(0, 1), -1, 2);
        fraction("share(1)", x.share(1, 0), x.share(1, 1), 1, 2);
        x.aim(0);
        fraction("luck(0) of what comes", x.luck(0, 0), x.luck(0, 1), 1, 1);
        fraction("luck(10) of what never comes", x.luck(10, 0), x.luck(10, 1), 0, 1);
        fraction("share(1) of nothing", x.share(1, 0), x.share(1, 1), 0, 1);
        fraction("share(0) of all", x.share(0, 0), x.share(0, 1), 1, 1);
    }

    private static void fraction(String call, long top, long bottom, long dueTop, long dueBottom) {
        CHECK.due(call + " above", top, dueTop);
        CHECK.due(call + " below", bottom, dueBottom);
    }

    /** Section 1: LEANS 'none at first', FALLS 'none', SAID 'none at first', DAY '0 at first'. */
    private static void noneAtFirst() {
        RiverSuit x = Told.suit("ferry 4 7 9;");
        CHECK.due("leans on none at first", x.claim(0, 4), 0);
        CHECK.due("falls by none at first", x.claim(0, 5), 0);
        CHECK.due("none is said at first", x.rule(3), 0);
        CHECK.due("day 0 at first", x.rule(2), 0);
        CHECK.due("no plan at first", x.rule(5), 0);
        CHECK.due("a new object's day", new RiverSuit().rule(2), 0);
        CHECK.due("a new object's said", new RiverSuit().rule(3), 0);
    }
}
