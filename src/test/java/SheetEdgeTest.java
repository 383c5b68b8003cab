/** The edges of promises 38 to 41: sheets of 0 to 40 cells, their lanes' lowest bits, the faults that are found. */
public final class SheetEdgeTest {
    private static final Check CHECK = new Check("SheetEdgeTest");
    private static final Twin NO_CLAIMS = new Twin(CHECK, "no claims", Some::none);
    private static final Twin ORDINARY = new Twin(CHECK, "ordinary", Some::ordinary);
    private static final Twin FULL = new Twin(CHECK, "full", Some::full);
    private static final int BAD = RiverSuit.BAD;
    private static final int NULL = 1, INDEX = 2, CAST = 3;
    private static final int MIN = Integer.MIN_VALUE, MAX = Integer.MAX_VALUE;

    public static void main(String[] args) {
        promise38SheetsAndLanes();
        promise38CellsFrom0To40();
        promise38BelowZero();
        promise38CellsAreZero();
        promise39NoSuchSheet();
        promise39Nothing();
        promise39Index();
        promise39LowestBits();
        promise40SheetLaneTimes();
        promise40NoneToTwenty();
        promise40Nothing();
        promise40AnotherLane();
        promise40Index();
        promise40ThoseAheadCame();
        promise40RefusedBySay();
        promise40TheFirstMet();
        promise40UpToEightCome();
        promise40AsBySay();
        promise41OfTheLatestThatCameToAnEnd();
        CHECK.close();
    }

    /** 'SHEETS 0 to 3'; 'BYTES (lane 0), SHORTS (1), INTS (2)'. */
    private static void promise38SheetsAndLanes() {
        for (int n : new int[] {0, 40, -1, 41}) {
            NO_CLAIMS.bad("sheet(k, 0, " + n + ")", (x, k) -> x.sheet(k, 0, n), 0, 3);
            ORDINARY.bad("sheet(k, 2, " + n + ")", (x, k) -> x.sheet(k, 2, n), 0, 3);
            NO_CLAIMS.bad("sheet(0, lane, " + n + ")", (x, lane) -> x.sheet(0, lane, n), 0, 2);
            ORDINARY.bad("sheet(2, lane, " + n + ")", (x, lane) -> x.sheet(2, lane, n), 0, 2);
        }
        RiverSuit x = new RiverSuit();
        for (int k = 0; k <= 3; k++) {
            for (int lane = 0; lane <= 2; lane++) {
                CHECK.due("sheet(" + k + ", " + lane + ", 1)", x.sheet(k, lane, 1), 1);
                x.read(k, lane, 1, 1);
                CHECK.due("it is of its lane", x.torn(), INDEX);
            }
        }
    }

    /** 'with 0 to 40 CELLS'; 'BAD: also n above 40'. */
    private static void promise38CellsFrom0To40() {
        for (int n : new int[] {41, 42, 64, 72, 127, 128, 255, 256, 296, 32767, 32768, 65536, 65576, MAX - 1, MAX}) {
            NO_CLAIMS.keeps("sheet(0, 0, " + n + ")", x -> x.sheet(0, 0, n), BAD);
            ORDINARY.keeps("sheet(0, 0, " + n + ")", x -> x.sheet(0, 0, n), BAD);
            FULL.keeps("sheet(3, 2, " + n + ")", x -> x.sheet(3, 2, n), BAD);
        }
        for (int n : new int[] {0, 1, 39, 40}) {
            for (int lane = 0; lane <= 2; lane++) {
                RiverSuit x = new RiverSuit();
                CHECK.due("sheet(0, " + lane + ", " + n + ")", x.sheet(0, lane, n), 1);
                CHECK.due("count(5)", x.count(5), n);
                CHECK.due("lay behind the last cell", x.lay(0, n, 0), -10 - INDEX);
                CHECK.due("lay on the last cell", x.lay(0, n - 1, 0), n == 0 ? -10 - INDEX : 1);
            }
        }
    }

    /** '4 SIZE (below 0)'; '-10 - 4': the sheet stays as it was. */
    private static void promise38BelowZero() {
        for (int n : new int[] {-1, -2, -40, -128, -256, -65536, MIN + 1, MIN}) {
            for (int lane = 0; lane <= 2; lane++) {
                int as = lane;
                NO_CLAIMS.keeps("sheet(0, " + as + ", " + n + ")", x -> x.sheet(0, as, n), -14);
                ORDINARY.keeps("sheet(0, " + as + ", " + n + ")", x -> x.sheet(0, as, n), -14);
                ORDINARY.keeps("sheet(1, " + as + ", " + n + ")", x -> x.sheet(1, as, n), -14);
            }
        }
    }

    /** 'A SHEET is a new row of CELLS 0': whatever lay there, and to the last cell. */
    private static void promise38CellsAreZero() {
        for (int lane = 0; lane <= 2; lane++) {
            RiverSuit x = Told.suit(Some.alike(8));
            x.sheet(2, 2, 40);
            for (int i = 0; i < 40; i++) {
                x.lay(2, i, 7);
            }
            x.sheet(2, lane, 40);
            for (int i = 0; i < 40; i++) {
                CHECK.due("read(2, " + lane + ", " + i + ", 1)", x.read(2, lane, i, 1), 1);
                CHECK.due("cell " + i + " is 0", x.rule(3), 1);
                x.drop(0);
            }
        }
        RiverSuit y = Told.suit(Some.alike(8));
        y.sheet(0, 0, 2);
        y.lay(0, 1, 5);
        y.sheet(1, 0, 2);
        CHECK.due("another sheet is not of it", y.read(0, 0, 1, 1), 1);
        CHECK.due("cell 1 of sheet 0", y.rule(3), 1 << 5);
    }

    private static void promise39NoSuchSheet() {
        ORDINARY.bad("lay(k, 0, 1)", (x, k) -> x.lay(k, 0, 1), 0, 3);
        FULL.bad("lay(k, 39, 1)", (x, k) -> x.lay(k, 39, 1), 0, 3);
        NO_CLAIMS.bad("lay(k, -1, 1)", (x, k) -> x.lay(k, -1, 1), 0, 3);
    }

    /** '-10 less the FAULT: NULL', whichever cell it would be. */
    private static void promise39Nothing() {
        for (int i : new int[] {MIN, -1, 0, 1, 40, MAX}) {
            ORDINARY.keeps("lay(1, " + i + ", 1)", x -> x.lay(1, i, 1), -10 - NULL);
            for (int k = 0; k <= 3; k++) {
                int sheet = k;
                NO_CLAIMS.keeps("lay(" + k + ", " + i + ", 1)", x -> x.lay(sheet, i, 1), -10 - NULL);
            }
        }
    }

    /** '-10 less the FAULT: .. INDEX.' */
    private static void promise39Index() {
        for (int i : Twin.outside(0, 2)) {
            ORDINARY.keeps("lay(0, " + i + ", 1)", x -> x.lay(0, i, 1), -10 - INDEX);
        }
        for (int i : Twin.outside(0, -1)) {
            ORDINARY.keeps("lay(3, " + i + ", 1)", x -> x.lay(3, i, 1), -10 - INDEX);
        }
        for (int i : Twin.outside(0, 39)) {
            FULL.keeps("lay(2, " + i + ", 1)", x -> x.lay(2, i, 1), -10 - INDEX);
        }
        RiverSuit x = Told.suit(Some.alike(8));
        x.sheet(0, 1, 40);
        for (int i = 0; i < 40; i++) {
            CHECK.due("lay(0, " + i + ", 3)", x.lay(0, i, i % 8), 1);
        }
        for (int i = 0; i < 40; i++) {
            CHECK.due("read(0, 1, " + i + ", 1)", x.read(0, 1, i, 1), 1);
            CHECK.due("cell " + i, x.rule(3), 1 << i % 8);
            x.drop(i % 8);
        }
        // A row that is shorter again has no cell where the longer one had.
        x.sheet(0, 1, 3);
        CHECK.due("lay(0, 3, 1) then", x.lay(0, 3, 1), -10 - INDEX);
    }

    /** 'CELL i of a SHEET becomes v (its lowest bits)': 8 of a byte, 16 of a short, 32 of an int, with their sign. */
    private static void promise39LowestBits() {
        int[] laid = {0, 7, 8, 127, 128, 135, 255, 256, 263, 264, -1, -128, -249, -256, 32767, 32768, 32775, 65535,
            65536, 65543, 65544, 0x1000100, 0x1000105, -65536, -65529, -65535, MIN, MIN + 7, MAX, MAX - 7};
        for (int lane = 0; lane <= 2; lane++) {
            RiverSuit x = Told.suit(Some.alike(8));
            x.sheet(3, lane, 1);
            for (int v : laid) {
                int cell = lane == 0 ? (byte) v : lane == 1 ? (short) v : v;
                boolean is = cell >= 0 && cell < 8;
                String call = "lane " + lane + ", lay(3, 0, " + v + ")";
                CHECK.due(call, x.lay(3, 0, v), 1);
                CHECK.due("read behind " + call, x.read(3, lane, 0, 1), is ? 1 : -20);
                CHECK.due("what was read behind " + call, x.rule(3), is ? 1 << cell : 0);
                if (is) {
                    x.drop(cell);
                }
            }
        }
        byHand(0, 256 + 6, 1);
        byHand(0, -250, 1);
        byHand(0, 128, -20);
        byHand(1, 256 + 6, -20);
        byHand(1, 65536 + 6, 1);
        byHand(1, 32768, -20);
        byHand(2, 65536 + 6, -20);
        byHand(2, 6, 1);
        byHand(2, MIN + 6, -20);
    }

    private static void byHand(int lane, int v, int due) {
        RiverSuit x = Told.suit(Some.alike(8));
        x.sheet(0, lane, 1);
        x.lay(0, 0, v);
        CHECK.due("lane " + lane + " of " + v, x.read(0, lane, 0, 1), due);
        CHECK.due("rule(3)", x.rule(3), due == 1 ? 1 << 6 : 0);
    }

    /** 'BAD: k, lane, n': a read that is BAD leaves torn(), too. */
    private static void promise40SheetLaneTimes() {
        ORDINARY.bad("read(k, 0, 0, 1)", (x, k) -> x.read(k, 0, 0, 1), 0, 3);
        ORDINARY.bad("read(k, 0, 0, 0)", (x, k) -> x.read(k, 0, 0, 0), 0, 3);
        ORDINARY.bad("read(0, lane, 0, 1)", (x, lane) -> x.read(0, lane, 0, 1), 0, 2);
        ORDINARY.bad("read(0, lane, 0, 0)", (x, lane) -> x.read(0, lane, 0, 0), 0, 2);
        ORDINARY.bad("read(0, 0, 0, n)", (x, n) -> x.read(0, 0, 0, n), 0, 20);
        ORDINARY.bad("read(1, 0, 0, n)", (x, n) -> x.read(1, 0, 0, n), 0, 20);
        NO_CLAIMS.bad("read(k, 0, 0, 1)", (x, k) -> x.read(k, 0, 0, 1), 0, 3);
        NO_CLAIMS.bad("read(0, 0, 0, n)", (x, n) -> x.read(0, 0, 0, n), 0, 20);
        FULL.bad("read(3, lane, 39, 20)", (x, lane) -> x.read(3, lane, 39, 20), 0, 2);
    }

    /** 'n (0 to 20)': of none nothing comes, and nothing is found. */
    private static void promise40NoneToTwenty() {
        RiverSuit x = Some.ordinary();
        CHECK.due("read(0, 0, 0, 0)", x.read(0, 0, 0, 0), 0);
        CHECK.due("torn()", x.torn(), 0);
        CHECK.due("rule(3)", x.rule(3), 0b101);
        for (int f : new int[] {MIN, -1, 3, 40, MAX}) {
            CHECK.due("read(0, 0, " + f + ", 0)", x.read(0, 0, f, 0), 0);
            CHECK.due("torn() of none", x.torn(), 0);
        }
        // The choice that NOTES.md tells of: where nothing is read, the machine meets neither NULL nor CAST.
        CHECK.due("read of none of nothing", x.read(1, 0, 0, 0), 0);
        CHECK.due("torn() of it", x.torn(), 0);
        CHECK.due("read of none as of another lane", x.read(0, 1, 0, 0), 0);
        CHECK.due("torn() of it", x.torn(), 0);
        RiverSuit y = Told.suit(Some.alike(8));
        y.sheet(0, 0, 8);
        for (int i = 0; i < 8; i++) {
            y.lay(0, i, 7 - i);
        }
        CHECK.due("read(0, 0, 0, 20)", y.read(0, 0, 0, 20), 8);
        CHECK.due("torn()", y.torn(), INDEX);
        CHECK.due("rule(3)", y.rule(3), 255);
    }

    /** '1 NULL (nothing)': ahead of the lane and the cell. */
    private static void promise40Nothing() {
        for (int k = 0; k <= 3; k++) {
            for (int lane = 0; lane <= 2; lane++) {
                RiverSuit x = Told.suit(Some.alike(8));
                for (int f : new int[] {0, MIN, -1, 40, MAX}) {
                    CHECK.due("read of nothing", x.read(k, lane, f, 20), 0);
                    CHECK.due("torn() of nothing", x.torn(), NULL);
                }
                CHECK.due("nothing came", x.rule(3), 0);
            }
        }
    }

    /** '3 CAST (another lane)': ahead of the cell. */
    private static void promise40AnotherLane() {
        for (int lane = 0; lane <= 2; lane++) {
            RiverSuit x = Told.suit(Some.alike(8));
            x.sheet(1, lane, 2);
            for (int as = 0; as <= 2; as++) {
                for (int f : new int[] {0, -1, 2, MIN, MAX}) {
                    boolean reads = as == lane && f == 0;
                    CHECK.due("lane " + lane + " as " + as + " from " + f, x.read(1, as, f, 1), reads ? 1 : 0);
                    CHECK.due("torn() of lane " + lane + " as " + as, x.torn(), as != lane ? CAST : reads ? 0 : INDEX);
                    x.drop(0);
                }
            }
            x.sheet(1, lane, 0);
            CHECK.due("no cells as of another lane", x.read(1, (lane + 1) % 3, 0, 1), 0);
            CHECK.due("torn() of it", x.torn(), CAST);
        }
    }

    /** '2 INDEX': ahead of the first cell, behind the last, far away; of a row of none. */
    private static void promise40Index() {
        RiverSuit x = Told.suit(Some.alike(8));
        x.sheet(0, 2, 40);
        x.lay(0, 39, 5);
        CHECK.due("read of the last cell", x.read(0, 2, 39, 1), 1);
        CHECK.due("torn()", x.torn(), 0);
        CHECK.due("rule(3)", x.rule(3), 1 << 5);
        for (int f : Twin.outside(0, 39)) {
            for (int n : new int[] {1, 20}) {
                CHECK.due("read(0, 2, " + f + ", " + n + ")", x.read(0, 2, f, n), 0);
                CHECK.due("torn()", x.torn(), INDEX);
            }
        }
        CHECK.due("read that would wrap around", x.read(0, 2, MAX, 2), 0);
        CHECK.due("torn()", x.torn(), INDEX);
        CHECK.due("rule(3) stays", x.rule(3), 1 << 5);
        x.sheet(0, 2, 0);
        CHECK.due("read of no cells", x.read(0, 2, 0, 1), 0);
        CHECK.due("torn()", x.torn(), INDEX);
    }

    /** 'What the machine refuses: those ahead came'. */
    private static void promise40ThoseAheadCame() {
        RiverSuit x = Told.suit(Some.alike(8));
        x.sheet(0, 0, 3);
        x.lay(0, 0, 4);
        x.lay(0, 1, 6);
        x.lay(0, 2, 1);
        CHECK.due("read of three and one more", x.read(0, 0, 0, 4), 3);
        CHECK.due("torn()", x.torn(), INDEX);
        CHECK.due("rule(3)", x.rule(3), 0b1010010);
        x.drop(1);
        CHECK.due("read of the last and one more", x.read(0, 0, 2, 2), 1);
        CHECK.due("torn()", x.torn(), INDEX);
        x.drop(1);
        CHECK.due("read of the last alone", x.read(0, 0, 2, 1), 1);
        CHECK.due("torn()", x.torn(), 0);
    }

    /** '-20 less i: the i-th is refused by say() (in whichever way): then none came'. */
    private static void promise40RefusedBySay() {
        for (int i = 0; i < 8; i++) {
            for (int bad : new int[] {-1, 8, 100, -128, 0}) {
                RiverSuit x = Told.suit(Some.alike(8) + "said 0;");
                x.sheet(0, 0, 20);
                for (int j = 0; j < i; j++) {
                    x.lay(0, j, 7 - j);
                }
                x.lay(0, i, bad);
                CHECK.due("refused at " + i + " by " + bad, x.read(0, 0, 0, 20), -20 - i);
                CHECK.due("none came", x.rule(3), 1);
                CHECK.due("torn() stays", x.torn(), 0);
            }
        }
        ORDINARY.keeps("read(0, 0, 2, 1): said already", x -> x.read(0, 0, 2, 1), -20);
        ORDINARY.keeps("read(0, 0, 0, 2): the second is said already", x -> x.read(0, 0, 0, 2), -21);
        ORDINARY.keeps("read(2, 2, 1, 1) on day 0: not in time", x -> onDay0(x), -20);
        NO_CLAIMS.keeps("lay(0, 0, 0) on nothing", x -> x.lay(0, 0, 0), -11);
        RiverSuit none = new RiverSuit();
        none.sheet(0, 0, 1);
        CHECK.due("read of no claims", none.read(0, 0, 0, 1), -20);
        RiverSuit full = Some.full();
        CHECK.due("read when all is said", full.read(0, 0, 0, 1), -20);
        CHECK.due("rule(3) stays", full.rule(3), 255);
    }

    private static long onDay0(RiverSuit x) {
        int was = x.day(0);
        long answer = x.read(2, 2, 1, 1);
        x.day(was);
        return answer;
    }

    /** 'the first met': what say() refuses ahead of the row's end, the row's end ahead of what say() would refuse. */
    private static void promise40TheFirstMet() {
        RiverSuit x = Told.suit(Some.alike(8));
        x.sheet(0, 1, 2);
        x.lay(0, 0, 3);
        x.lay(0, 1, 3);
        CHECK.due("refused ahead of the edge", x.read(0, 1, 0, 20), -21);
        CHECK.due("none came", x.rule(3), 0);
        CHECK.due("torn() stays", x.torn(), 0);
        x.lay(0, 1, 8);
        x.lay(0, 0, -1);
        CHECK.due("the first of two that are refused", x.read(0, 1, 0, 2), -20);
        CHECK.due("ahead of the row", x.read(0, 1, -1, 3), 0);
        CHECK.due("torn()", x.torn(), INDEX);
        CHECK.due("as of another lane", x.read(0, 0, 0, 1), 0);
        CHECK.due("torn() of another lane", x.torn(), CAST);
    }

    /** As many as there are claims can come; the ninth is refused whichever it is. */
    private static void promise40UpToEightCome() {
        for (int ninth = 0; ninth < 8; ninth++) {
            RiverSuit x = Told.suit(Some.alike(8));
            x.sheet(0, 2, 9);
            for (int i = 0; i < 8; i++) {
                x.lay(0, i, i);
            }
            x.lay(0, 8, ninth);
            CHECK.due("nine", x.read(0, 2, 0, 9), -28);
            CHECK.due("none came", x.rule(3), 0);
            CHECK.due("eight", x.read(0, 2, 0, 8), 8);
            CHECK.due("all came", x.rule(3), 255);
            CHECK.due("torn()", x.torn(), 0);
        }
    }

    /** 'one behind another as by say()': IN TIME on this DAY, from its first to its last. */
    private static void promise40AsBySay() {
        for (int d = 0; d <= 9; d++) {
            RiverSuit x = Told.suit("river 3 5 1;day " + d + ";");
            x.sheet(0, 0, 1);
            boolean in = 3 <= d && d <= 5;
            CHECK.due("read on day " + d, x.read(0, 0, 0, 1), in ? 1 : -20);
            CHECK.due("rule(3)", x.rule(3), in ? 1 : 0);
        }
        RiverSuit y = Told.suit("river 0 9 1;river 0 9 1 unless 0;day 5;");
        y.sheet(0, 0, 2);
        y.lay(0, 0, 1);
        CHECK.due("how many came, not how many stand", y.read(0, 0, 0, 2), 2);
        CHECK.due("rule(4)", y.rule(4), 1);
        RiverSuit z = Told.suit("river 0 9 1;river 0 9 1 0;river 0 9 1 1;");
        z.sheet(0, 0, 2);
        z.lay(0, 0, 2);
        z.lay(0, 1, 1);
        CHECK.due("say() answers 0 and refuses nothing: one came", z.read(0, 0, 0, 1), 1);
        CHECK.due("none stands", z.rule(4), 0);
        CHECK.due("another came", z.read(0, 0, 1, 1), 1);
        CHECK.due("rule(3)", z.rule(3), 0b110);
        CHECK.due("torn()", z.torn(), 0);
    }

    /** 'The FAULT of the latest read() that came to an end; 0.' */
    private static void promise41OfTheLatestThatCameToAnEnd() {
        RiverSuit x = Told.suit(Some.alike(8));
        CHECK.due("torn() of no read", x.torn(), 0);
        x.sheet(0, 0, 1);
        x.lay(0, 0, 9);
        int[] found = {NULL, INDEX, CAST};
        for (int fault : found) {
            x.read(fault == NULL ? 1 : 0, fault == CAST ? 1 : 0, fault == INDEX ? 1 : 0, 1);
            CHECK.due("torn()", x.torn(), fault);
            CHECK.due("torn() again", x.torn(), fault);
            CHECK.due("a read that say() refuses", x.read(0, 0, 0, 1), -20);
            CHECK.due("torn() is not of it", x.torn(), fault);
            CHECK.due("a read that is BAD", x.read(0, 0, 0, 21), BAD);
            CHECK.due("torn() is not of it", x.torn(), fault);
            x.lay(3, 0, 0);
            x.sheet(3, 0, -1);
            CHECK.due("torn() is not of lay() or sheet()", x.torn(), fault);
            x.text();
            Told.tell(x, Some.alike(8));
            CHECK.due("torn() is not of a text", x.torn(), fault);
        }
        CHECK.due("a read of none", x.read(0, 0, 0, 0), 0);
        CHECK.due("torn() of it", x.torn(), 0);
    }
}
