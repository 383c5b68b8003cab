import java.util.ArrayList;
import java.util.List;

/** The edges of promises 1 to 5: a new object, the tape's bytes and its length, what a text does, taken or refused. */
public final class TapeEdgeTest {
    private static final Check CHECK = new Check("TapeEdgeTest");
    private static final Twin NONE = new Twin(CHECK, "no claims", Some::none);
    private static final Twin ORDINARY = new Twin(CHECK, "ordinary", Some::ordinary);
    private static final Twin FULL_TAPE = new Twin(CHECK, "full tape", Some::fullTape);

    public static void main(String[] args) {
        promise1NoClaimsAndSheetsOfNothing();
        promise2BytesFrom0To127();
        promise2FullBehind160();
        promise3FirstBytesAreKept();
        promise3NoMoreThanThereAre();
        promise3OfAFullTape();
        promise4AnEmptyTapeTellsAll();
        promise4TheTapeIsEmptyThen();
        promise4TheLastPlaces();
        promise4TheMostLines();
        promise4TakenTellsAllInPlaceOfWhatThereWas();
        promise4SeenAndImagesAreGone();
        promise4RefusedStaysAsItWas();
        promise5FaultOfTheLatest();
        CHECK.close();
    }

    /** 'No CLAIMS; SHEETS of nothing.' */
    private static void promise1NoClaimsAndSheetsOfNothing() {
        RiverSuit x = new RiverSuit();
        CHECK.due("rule(0)", x.rule(0), 0);
        CHECK.due("claim(0, 0)", x.claim(0, 0), RiverSuit.BAD);
        CHECK.due("say(0)", x.say(0), RiverSuit.BAD);
        CHECK.due("stands(0)", x.stands(0), 0);
        CHECK.due("stands(1)", x.stands(1), RiverSuit.BAD);
        for (int k = 0; k < 4; k++) {
            for (int lane = 0; lane < 3; lane++) {
                CHECK.due("read(" + k + ", " + lane + ", 0, 1)", x.read(k, lane, 0, 1), 0);
                CHECK.due("torn(): nothing", x.torn(), 1);
            }
        }
        CHECK.due("count(5)", x.count(5), RiverSuit.NONE);
        CHECK.due("count(4)", x.count(4), 0);
        CHECK.due("count(3)", x.count(3), 0);
        CHECK.due("fault()", x.fault(), 0);
    }

    /** 'A byte (0 to 127) comes behind THE TAPE: how many it has. BAD'. */
    private static void promise2BytesFrom0To127() {
        RiverSuit x = new RiverSuit();
        for (int c = 0; c <= 127; c++) {
            CHECK.due("feed(" + c + ")", x.feed(c), c + 1);
        }
        ORDINARY.bad("feed", RiverSuit::feed, 0, 127);
        NONE.bad("feed", RiverSuit::feed, 0, 127);
    }

    /** 'THE TAPE has 160 bytes'; 'FULL: more than 160.' */
    private static void promise2FullBehind160() {
        RiverSuit x = new RiverSuit();
        for (int i = 1; i <= 160; i++) {
            CHECK.due("feed of byte " + i, x.feed(';'), i);
        }
        CHECK.due("feed of byte 161", x.feed(';'), RiverSuit.FULL);
        CHECK.due("feed of byte 161 again", x.feed(' '), RiverSuit.FULL);
        CHECK.due("count(4)", x.count(4), 160);
        FULL_TAPE.keeps("feed(0)", y -> y.feed(0), RiverSuit.FULL);
        FULL_TAPE.keeps("feed(63)", y -> y.feed('?'), RiverSuit.FULL);
        FULL_TAPE.keeps("feed(127)", y -> y.feed(127), RiverSuit.FULL);
        FULL_TAPE.bad("feed", RiverSuit::feed, 0, 127);
        RiverSuit full = Some.fullTape();
        full.end(159);
        CHECK.due("feed where one was taken away", full.feed(';'), 160);
        CHECK.due("feed of one too many", full.feed(';'), RiverSuit.FULL);
        CHECK.due("text() of it", full.text(), 2);
        CHECK.due("feed behind the text", full.feed(';'), 1);
    }

    /** 'THE TAPE keeps its first n bytes: how many it had.' */
    private static void promise3FirstBytesAreKept() {
        RiverSuit x = new RiverSuit();
        CHECK.due("end(0) of none", x.end(0), 0);
        Some.feed(x, "day 3;day 4;?");
        CHECK.due("end(13)", x.end(13), 13);
        CHECK.due("end(12)", x.end(12), 13);
        CHECK.due("end(6)", x.end(6), 12);
        CHECK.due("end(6) again", x.end(6), 6);
        CHECK.due("text()", x.text(), 1);
        CHECK.due("the first bytes were kept", x.rule(2), 3);
        Some.feed(x, "day 3;");
        CHECK.due("end(4)", x.end(4), 6);
        Some.feed(x, "9;");
        CHECK.due("text() of the joined", x.text(), 1);
        CHECK.due("bytes came behind those kept", x.rule(2), 9);
        Some.feed(x, "?");
        CHECK.due("end(0)", x.end(0), 1);
        CHECK.due("count(4)", x.count(4), 0);
        CHECK.due("text() of nothing", x.text(), 0);
    }

    /** 'BAD': below 0, or more than there are. */
    private static void promise3NoMoreThanThereAre() {
        NONE.bad("end", RiverSuit::end, 0, 0);
        ORDINARY.bad("end", RiverSuit::end, 0, 18);
        ORDINARY.keeps("end(18)", x -> x.end(18), 18);
        NONE.keeps("end(0)", x -> x.end(0), 0);
    }

    private static void promise3OfAFullTape() {
        FULL_TAPE.bad("end", RiverSuit::end, 0, 160);
        FULL_TAPE.keeps("end(160)", x -> x.end(160), 160);
        RiverSuit x = Some.fullTape();
        CHECK.due("end(159)", x.end(159), 160);
        CHECK.due("end(160) then", x.end(160), RiverSuit.BAD);
        CHECK.due("end(159) again", x.end(159), 159);
        CHECK.due("end(0)", x.end(0), 159);
    }

    /** 'text: { line }' may be none: all is told in place of what there was, no claims. */
    private static void promise4AnEmptyTapeTellsAll() {
        RiverSuit x = Some.ordinary();
        x.end(0);
        CHECK.due("text() of an empty tape", x.text(), 0);
        CHECK.due("fault()", x.fault(), 0);
        CHECK.due("rule(0)", x.rule(0), 0);
        CHECK.due("rule(1)", x.rule(1), RiverSuit.NONE);
        CHECK.due("rule(2)", x.rule(2), 0);
        CHECK.due("rule(3)", x.rule(3), 0);
        CHECK.due("rule(5)", x.rule(5), 0);
        CHECK.due("count(2)", x.count(2), 0);
        CHECK.due("count(3)", x.count(3), 0);
        Some.feed(x, " ".repeat(160));
        CHECK.due("text() of 160 blanks", x.text(), 0);
        CHECK.due("fault() of 160 blanks", x.fault(), 0);
    }

    /** 'THE TAPE (empty then)', whether it was taken or refused. */
    private static void promise4TheTapeIsEmptyThen() {
        RiverSuit x = new RiverSuit();
        CHECK.due("a text that is taken", Told.tell(x, "day 1;"), 1);
        CHECK.due("count(4) behind it", x.count(4), 0);
        for (String refused : new String[] {"?", "x", "day 10;", "day 1;day", "plan0;".repeat(7), "end 0;"}) {
            CHECK.isTrue("refused: " + refused, Told.tell(x, refused) <= -10);
            CHECK.due("count(4) behind " + refused, x.count(4), 0);
            CHECK.due("a text of nothing behind " + refused, x.text(), 0);
            CHECK.due("fault() of nothing behind " + refused, x.fault(), 0);
        }
    }

    /** '160 bytes, places from 0': 159 is the last place, 160 the greatest length. */
    private static void promise4TheLastPlaces() {
        told("?", -10, 1);
        told(" ".repeat(154) + "day 5;", 1, 0);
        told(" ".repeat(159) + "?", -10 - 159, 1);
        told(" ".repeat(159) + "x", -10 - 159, 2);
        told(" ".repeat(159) + ";", -10 - 159, 2);
        told(" ".repeat(155) + "day 5", -10 - 160, 2);
        told("day 5" + " ".repeat(155), -10 - 160, 2);
        told("end 0;" + " ".repeat(154), -10 - 160, 6);
        told("end 0;" + " ".repeat(153), -10 - 159, 6);
        told(" ".repeat(158) + "12", -10 - 158, 2);
        told(" ".repeat(157) + "123", -10 - 157, 1);
        told("day " + "0".repeat(156), -14, 1);
        told("a".repeat(160), -10, 2);
        RiverSuit x = new RiverSuit();
        Told.tell(x, " ".repeat(154) + "day 5;");
        CHECK.due("the last byte was read", x.rule(2), 5);
    }

    /** 'how many lines'. */
    private static void promise4TheMostLines() {
        told("", 0, 0);
        told("day 0;", 1, 0);
        String claims = Some.alike(8);
        String plans = "plan7;".repeat(6);
        told(claims + plans + "said0;said1;said6;said7;end7;day9;", 8 + 6 + 4 + 2, 0);
        told("said0;said1;said2;said3;said4;said5;said6;said7;" + claims + "end0;day0;", 18, 0);
    }

    /** 'A text that is taken tells all, in place of what there was'. */
    private static void promise4TakenTellsAllInPlaceOfWhatThereWas() {
        for (String text : new String[] {"", "ferry 3 4 5;", Some.THREE, Some.THREE + "end 0;day 9;said 2;plan 2;",
            Some.alike(8), "day 4;"}) {
            RiverSuit used = Some.ordinary();
            used.end(0);
            CHECK.isTrue("taken: " + text, Told.tell(used, text) >= 0);
            List<Long> then = new ArrayList<>();
            Twin.state(used, then);
            List<Long> anew = new ArrayList<>();
            Twin.state(Told.suit(text), anew);
            CHECK.isTrue("all is as of a new object: " + text, then.equals(anew));
        }
        RiverSuit x = Some.ordinary();
        CHECK.due("text()", x.text(), 2);
        CHECK.due("sheets are not told of", x.count(5), 3);
        CHECK.due("nor is torn()", x.torn(), 2);
    }

    /** 'nothing is SEEN; IMAGES are gone.' */
    private static void promise4SeenAndImagesAreGone() {
        RiverSuit x = Some.full();
        Told.tell(x, Some.alike(1));
        CHECK.due("count(2)", x.count(2), 0);
        CHECK.due("count(3)", x.count(3), 0);
        CHECK.due("back(0)", x.back(0), RiverSuit.STATE);
        CHECK.due("back(1)", x.back(1), RiverSuit.STATE);
        CHECK.due("keep(0)", x.keep(0), 0);
        CHECK.due("keep(1)", x.keep(1), 0);
        CHECK.due("see(1, false)", x.see(1, false), 1);
        CHECK.due("fits(0) by it alone", x.fits(0), 0);
    }

    /** '-10 less the place of its FAULT: that which was told stays.' */
    private static void promise4RefusedStaysAsItWas() {
        String ahead = "bridge 0 1 8;day 7;plan 0;said 0;";
        refused(ahead + "?", -10 - 33, 1);
        refused(ahead + "123", -10 - 33, 1);
        refused(ahead + "x", -10 - 33, 2);
        refused(ahead + "end", -10 - 36, 2);
        refused(ahead + "end 8;", -10 - 37, 3);
        refused(ahead + "said 0;", -10 - 38, 4);
        refused(ahead + "day 7;", -10 - 33, 4);
        refused(ahead + "plan 0;".repeat(6), -10 - 68, 5);
        refused(ahead + Some.alike(8), -10 - 33 - 77, 5);
        refused(ahead + "end 1;", -10 - 39, 6);
    }

    private static void refused(String text, int answer, int fault) {
        RiverSuit one = Some.ordinary();
        RiverSuit other = Some.ordinary();
        one.end(0);
        other.end(0);
        CHECK.due("text() of " + text, Told.tell(one, text), answer);
        CHECK.due("fault() of " + text, one.fault(), fault);
        CHECK.isTrue("nothing was told by " + text, Twin.all(one).equals(Twin.all(other)));
    }

    /** 'The FAULT of the latest text(); 0.' */
    private static void promise5FaultOfTheLatest() {
        RiverSuit x = new RiverSuit();
        CHECK.due("fault() of no text", x.fault(), 0);
        String[] texts = {"", "?", "x", "day 10;", "day 1;day", "plan0;".repeat(7), "end 0;"};
        for (int fault = 6; fault >= 0; fault--) {
            Told.tell(x, texts[fault]);
            CHECK.due("fault() of " + texts[fault], x.fault(), fault);
            x.feed('?');
            CHECK.due("fault() is not of what is fed", x.fault(), fault);
            x.end(0);
            CHECK.due("fault() is not of what is kept", x.fault(), fault);
            x.say(9);
            x.read(0, 0, 0, 1);
            CHECK.due("fault() is not of other calls", x.fault(), fault);
        }
        Told.tell(x, "?");
        x.text();
        CHECK.due("fault() of a text that was taken", x.fault(), 0);
    }

    private static void told(String text, int answer, int fault) {
        RiverSuit x = new RiverSuit();
        CHECK.due("text() of '" + text + "'", Told.tell(x, text), answer);
        CHECK.due("fault() of '" + text + "'", x.fault(), fault);
    }
}
