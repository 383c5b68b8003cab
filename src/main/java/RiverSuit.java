/**
 * The river against the bridge: a suit of claims, what stands of what is said, and what could.
 * The promises that the public face keeps are numbered in the document (../shared/DOC.md).
 */
public final class RiverSuit {
    public static final int BAD = -1, STATE = -2, FULL = -3, NONE = -4;

    private static final int RIVER = 0, BRIDGE = 1, FERRY = 2;
    private static final int MOST_CLAIMS = 8, MOST_SETS = 256;
    private static final int LAST_DAY = 9, MOST_YARDS = 9;
    private static final int MOST_PLANNED = 6, MOST_SEEN = 6;
    private static final int TAPE_BYTES = 160, LAST_BYTE = 127;
    private static final int IMAGES = 2, SHEETS = 4, LAST_LANE = 2, MOST_CELLS = 40, MOST_READ = 20;
    private static final int FAULT_BASE = -10, REFUSED_BASE = -20;
    private static final int NULL_FAULT = 1, INDEX_FAULT = 2, CAST_FAULT = 3, SIZE_FAULT = 4;
    private static final int ODDS = 10, MOST_DRIFT = 60;
    private static final int[] FACTORIALS = {1, 1, 2, 6, 24, 120, 720, 5040, 40320};

    private final Suit suit;
    private final Suit draft;
    private final Suit[] images;
    private final boolean[] kept;
    private final Tape tape;
    private final Sheet[] sheets;
    private final Trial trial;
    private final Game game;
    private final Law law;
    private final int[] chains;
    private int textFault;
    private int readFault;

    public RiverSuit() {
        suit = new Suit();
        draft = new Suit();
        images = new Suit[IMAGES];
        kept = new boolean[IMAGES];
        for (int k = 0; k < IMAGES; k++) {
            images[k] = new Suit();
        }
        tape = new Tape();
        sheets = new Sheet[SHEETS];
        for (int k = 0; k < SHEETS; k++) {
            sheets[k] = new Sheet();
        }
        trial = new Trial();
        game = new Game();
        law = new Law();
        chains = new int[MOST_CLAIMS];
    }

    // ---- the text

    public int feed(int c) {
        if (!within(c, 0, LAST_BYTE)) {
            return BAD;
        }
        return tape.append(c) ? tape.length : FULL;
    }

    public int end(int n) {
        if (!within(n, 0, tape.length)) {
            return BAD;
        }
        int had = tape.length;
        tape.length = n;
        return had;
    }

    public int text() {
        int lines = tape.tell(draft);
        textFault = tape.fault;
        if (textFault != 0) {
            return FAULT_BASE - tape.faultPlace;
        }
        suit.become(draft);
        for (int k = 0; k < IMAGES; k++) {
            kept[k] = false;
        }
        return lines;
    }

    public int fault() {
        return textFault;
    }

    public int rule(int what) {
        switch (what) {
            case 0: return suit.claims;
            case 1: return suit.claims == 0 ? NONE : suit.end;
            case 2: return suit.day;
            case 3: return suit.said;
            case 4: return suit.standing(suit.said);
            case 5: return suit.planned;
            default: return BAD;
        }
    }

    public int claim(int c, int what) {
        if (!suit.hasClaim(c)) {
            return BAD;
        }
        switch (what) {
            case 0: return suit.sides[c];
            case 1: return suit.from[c];
            case 2: return suit.to[c];
            case 3: return suit.yards[c];
            case 4: return suit.leans[c];
            case 5: return suit.falls[c];
            case 6: return suit.standing(suit.said) >> c & 1;
            default: return BAD;
        }
    }

    public int plan(int i) {
        return within(i, 0, suit.planned - 1) ? suit.plan[i] : BAD;
    }

    // ---- what is changed

    public int say(int c) {
        if (!suit.hasClaim(c)) {
            return BAD;
        }
        if (suit.isSaid(c) || !suit.inTime(c, suit.day)) {
            return STATE;
        }
        suit.said |= 1 << c;
        return Integer.bitCount(suit.standing(suit.said));
    }

    public int drop(int c) {
        if (!suit.hasClaim(c)) {
            return BAD;
        }
        if (!suit.isSaid(c)) {
            return STATE;
        }
        suit.said &= ~(1 << c);
        return Integer.bitCount(suit.standing(suit.said));
    }

    public int day(int d) {
        if (!within(d, 0, LAST_DAY)) {
            return BAD;
        }
        int was = suit.day;
        suit.day = d;
        return was;
    }

    public int aim(int c) {
        if (!suit.hasClaim(c)) {
            return BAD;
        }
        int was = suit.end;
        suit.end = c;
        return was;
    }

    public int leans(int c, int on, boolean is) {
        return suit.hasClaim(c) ? bind(suit.leans, suit.falls, c, on, is) : BAD;
    }

    public int falls(int c, int by, boolean is) {
        return suit.hasClaim(c) ? bind(suit.falls, suit.leans, c, by, is) : BAD;
    }

    public int yards(int c, int v) {
        if (!suit.hasClaim(c) || !within(v, 0, MOST_YARDS)) {
            return BAD;
        }
        int was = suit.yards[c];
        suit.yards[c] = v;
        return was;
    }

    public int plans(int c) {
        if (!suit.hasClaim(c)) {
            return BAD;
        }
        return suit.addToPlan(c) ? suit.planned : FULL;
    }

    public int cut(int n) {
        if (!within(n, 0, suit.planned)) {
            return BAD;
        }
        int had = suit.planned;
        suit.planned = n;
        return had;
    }

    // ---- what stands

    public int stands(int set) {
        return suit.hasSet(set) ? suit.standing(set) : BAD;
    }

    public int sum(int side) {
        if (!within(side, RIVER, FERRY)) {
            return BAD;
        }
        int standing = suit.standing(suit.said);
        int sum = 0;
        for (int c = 0; c < suit.claims; c++) {
            if (suit.sides[c] == side && (standing >> c & 1) == 1) {
                sum += suit.yards[c];
            }
        }
        return sum;
    }

    public int upon(int c) {
        if (!suit.hasClaim(c)) {
            return BAD;
        }
        return suit.standing(suit.said) & ~suit.standing(suit.said & ~(1 << c));
    }

    public int reply(int c, int what) {
        if (!suit.hasClaim(c) || !within(what, 0, 1)) {
            return BAD;
        }
        int now = suit.standing(suit.said) >> c & 1;
        if (now == what) {
            return 0;
        }
        int replies = 0;
        for (int by = 0; by < suit.claims; by++) {
            if (!suit.isSaid(by) && (suit.standing(suit.said | 1 << by) >> c & 1) != now) {
                replies |= 1 << by;
            }
        }
        return replies;
    }

    public int ever(int what) {
        if (!within(what, 0, 1)) {
            return BAD;
        }
        int sets = 1 << suit.claims;
        int sometimes = 0;
        int notAlways = 0;
        for (int set = 0; set < sets; set++) {
            int standing = suit.standing(set);
            sometimes |= standing;
            notAlways |= set & ~standing;
        }
        return (sets - 1) & ~(what == 0 ? sometimes : notAlways);
    }

    public int chain(int c) {
        if (!suit.hasClaim(c)) {
            return BAD;
        }
        for (int up = 0; up <= c; up++) {
            chains[up] = 1;
            for (int on = 0; on < up; on++) {
                if ((suit.leans[up] >> on & 1) == 1) {
                    chains[up] = Math.max(chains[up], chains[on] + 1);
                }
            }
        }
        return chains[c];
    }

    public int late() {
        int late = 0;
        for (int c = 0; c < suit.claims; c++) {
            if (!suit.isSaid(c) && suit.to[c] < suit.day) {
                late |= 1 << c;
            }
        }
        return late;
    }

    // ---- the end

    public int few(int what) {
        return within(what, 0, 1) ? fewestMore(true, what) : BAD;
    }

    public int foil(int what) {
        return within(what, 0, 1) ? fewestMore(false, what) : BAD;
    }

    public int trial(int what) {
        if (!within(what, 0, 3)) {
            return BAD;
        }
        trial.hold(suit, 0);
        switch (what) {
            case 0: return suit.standing(trial.said);
            case 1: return suit.claims == 0 ? NONE : oneIf(suit.endStands(trial.said));
            case 2: return trial.firstLost;
            default: return trial.lost;
        }
    }

    public long luck(int v, int what) {
        if (!within(v, 0, ODDS) || !within(what, 0, 1)) {
            return BAD;
        }
        if (suit.claims == 0) {
            return STATE;
        }
        long all = 1;
        for (int i = 0; i < suit.planned; i++) {
            all *= ODDS;
        }
        long good = 0;
        // A flood behind the last day takes what is lost anyway: it may be counted along.
        for (int floods = 0; floods < 1 << suit.planned; floods++) {
            trial.hold(suit, floods);
            if (suit.endStands(trial.said)) {
                good += weight(floods, v);
            }
        }
        return lowest(good, all, what);
    }

    public int game(int what) {
        if (!within(what, 0, 1)) {
            return BAD;
        }
        if (suit.claims == 0) {
            return STATE;
        }
        if (what == 0) {
            game.solve(suit, suit.day);
            return oneIf(game.riverWins(suit.said));
        }
        game.solve(suit, suit.day + 1);
        return game.bestSaying(suit);
    }

    public int days() {
        if (suit.claims == 0) {
            return STATE;
        }
        return game.solve(suit, 0);
    }

    public long share(int c, int what) {
        if (!suit.hasClaim(c) || !within(what, 0, 1)) {
            return BAD;
        }
        long turns = 0;
        for (int set = 0; set < 1 << suit.claims; set++) {
            if ((set >> c & 1) == 0) {
                int turn = oneIf(suit.endStands(set | 1 << c)) - oneIf(suit.endStands(set));
                turns += turn * orders(Integer.bitCount(set));
            }
        }
        return lowest(turns, factorial(suit.claims), what);
    }

    // ---- which law it was

    public int see(int set, boolean is) {
        if (!suit.hasSet(set)) {
            return BAD;
        }
        return suit.addSeen(set, is) ? suit.seen : FULL;
    }

    public int forget(int n) {
        if (!within(n, 0, suit.seen)) {
            return BAD;
        }
        int had = suit.seen;
        suit.seen = n;
        return had;
    }

    public int fits(int what) {
        if (!within(what, 0, 3)) {
            return BAD;
        }
        if (suit.claims == 0) {
            return STATE;
        }
        law.search(suit);
        if (what == 0) {
            return law.fitting;
        }
        if (law.fitting == 0) {
            return NONE;
        }
        switch (what) {
            case 1: return law.least;
            case 2: return law.inAll;
            default: return law.could & ~law.inSome;
        }
    }

    // ---- by a seed

    public int drift(int seed, int n, int what) {
        if (!within(n, 1, MOST_DRIFT) || !within(what, 0, 1)) {
            return BAD;
        }
        if (suit.claims == 0) {
            return STATE;
        }
        int said = suit.said;
        int often = 0;
        int next = seed;
        for (int i = 0; i < n; i++) {
            next = next * 1103515245 + 12345;
            said ^= 1 << (next >>> 16 & 32767) % suit.claims;
            often += oneIf(suit.endStands(said));
        }
        return what == 0 ? often : suit.standing(said);
    }

    // ---- images, sheets

    public int keep(int k) {
        if (!within(k, 0, IMAGES - 1)) {
            return BAD;
        }
        int was = oneIf(kept[k]);
        images[k].become(suit);
        kept[k] = true;
        return was;
    }

    public int back(int k) {
        if (!within(k, 0, IMAGES - 1)) {
            return BAD;
        }
        if (!kept[k]) {
            return STATE;
        }
        suit.become(images[k]);
        return suit.day;
    }

    public int sheet(int k, int lane, int n) {
        if (!within(k, 0, SHEETS - 1) || !within(lane, 0, LAST_LANE) || n > MOST_CELLS) {
            return BAD;
        }
        if (n < 0) {
            return FAULT_BASE - SIZE_FAULT;
        }
        sheets[k].renew(lane, n);
        return 1;
    }

    public int lay(int k, int i, int v) {
        if (!within(k, 0, SHEETS - 1)) {
            return BAD;
        }
        Sheet sheet = sheets[k];
        int found = sheet.faultOf(sheet.lane, i);
        if (found != 0) {
            return FAULT_BASE - found;
        }
        sheet.put(i, v);
        return 1;
    }

    public int read(int k, int lane, int f, int n) {
        if (!within(k, 0, SHEETS - 1) || !within(lane, 0, LAST_LANE) || !within(n, 0, MOST_READ)) {
            return BAD;
        }
        Sheet sheet = sheets[k];
        int saidBefore = suit.said;
        int found = 0;
        int came = 0;
        for (int i = 0; i < n && found == 0; i++) {
            // f + i can not wrap around: the first place beyond the row ends the loop.
            found = sheet.faultOf(lane, f + i);
            if (found == 0) {
                if (say(sheet.cells[f + i]) < 0) {
                    suit.said = saidBefore;
                    return REFUSED_BASE - i;
                }
                came++;
            }
        }
        readFault = found;
        return came;
    }

    public int torn() {
        return readFault;
    }

    public int count(int what) {
        switch (what) {
            case 0: return Integer.bitCount(suit.said);
            case 1: return Integer.bitCount(suit.standing(suit.said));
            case 2: return suit.seen;
            case 3: return oneIf(kept[0]) + oneIf(kept[1]);
            case 4: return tape.length;
            case 5: return sheets[0].blank() ? NONE : sheets[0].size;
            default: return BAD;
        }
    }

    // ---- what several calls share

    private static boolean within(int v, int low, int high) {
        return v >= low && v <= high;
    }

    private static int oneIf(boolean is) {
        return is ? 1 : 0;
    }

    /** Leaning and falling differ only in which of the two rows is changed, which one forbids it. */
    private static int bind(int[] row, int[] against, int c, int other, boolean is) {
        if (!within(other, 0, c - 1)) {
            return BAD;
        }
        int bit = 1 << other;
        if (is && (against[c] & bit) != 0) {
            return STATE;
        }
        int was = row[c] >> other & 1;
        row[c] = is ? row[c] | bit : row[c] & ~bit;
        return was;
    }

    private int fewestMore(boolean standing, int what) {
        if (suit.claims == 0) {
            return NONE;
        }
        int fewest = MOST_CLAIMS + 1;
        int least = 0;
        for (int more = 0; more < 1 << suit.claims; more++) {
            int many = Integer.bitCount(more);
            if ((more & suit.said) == 0 && many < fewest
                    && suit.endStands(suit.said | more) == standing) {
                fewest = many;
                least = more;
            }
        }
        if (fewest > MOST_CLAIMS) {
            return NONE;
        }
        return what == 0 ? fewest : least;
    }

    private long weight(int floods, int v) {
        long weight = 1;
        for (int i = 0; i < suit.planned; i++) {
            weight *= (floods >> i & 1) == 1 ? v : ODDS - v;
        }
        return weight;
    }

    /** In how many orders of all claims just so many given ones come ahead of a given one. */
    private long orders(int ahead) {
        return factorial(ahead) * factorial(suit.claims - 1 - ahead);
    }

    private static long factorial(int n) {
        return within(n, 0, MOST_CLAIMS) ? FACTORIALS[n] : 0;
    }

    private static long lowest(long top, long bottom, int what) {
        long rest = Math.abs(top);
        long divisor = bottom;
        for (int i = 0; i < 1000 && rest != 0; i++) {
            long left = divisor % rest;
            divisor = rest;
            rest = left;
        }
        if (divisor == 0) {
            return 0;
        }
        return (what == 0 ? top : bottom) / divisor;
    }

    /** All that a text tells and that an image keeps. */
    private static final class Suit {
        final int[] sides = new int[MOST_CLAIMS];
        final int[] from = new int[MOST_CLAIMS];
        final int[] to = new int[MOST_CLAIMS];
        final int[] yards = new int[MOST_CLAIMS];
        final int[] leans = new int[MOST_CLAIMS];
        final int[] falls = new int[MOST_CLAIMS];
        final int[] plan = new int[MOST_PLANNED];
        final int[] seenSets = new int[MOST_SEEN];
        int seenStood;
        int claims;
        int end = NONE;
        int day;
        int said;
        int planned;
        int seen;

        void empty() {
            claims = 0;
            end = NONE;
            day = 0;
            said = 0;
            planned = 0;
            seen = 0;
        }

        void become(Suit other) {
            System.arraycopy(other.sides, 0, sides, 0, MOST_CLAIMS);
            System.arraycopy(other.from, 0, from, 0, MOST_CLAIMS);
            System.arraycopy(other.to, 0, to, 0, MOST_CLAIMS);
            System.arraycopy(other.yards, 0, yards, 0, MOST_CLAIMS);
            System.arraycopy(other.leans, 0, leans, 0, MOST_CLAIMS);
            System.arraycopy(other.falls, 0, falls, 0, MOST_CLAIMS);
            System.arraycopy(other.plan, 0, plan, 0, MOST_PLANNED);
            System.arraycopy(other.seenSets, 0, seenSets, 0, MOST_SEEN);
            seenStood = other.seenStood;
            claims = other.claims;
            end = other.end;
            day = other.day;
            said = other.said;
            planned = other.planned;
            seen = other.seen;
        }

        boolean hasClaim(int c) {
            return c >= 0 && c < claims;
        }

        boolean hasSet(int set) {
            return set >= 0 && set < 1 << claims;
        }

        boolean isSaid(int c) {
            return (said >> c & 1) == 1;
        }

        boolean inTime(int c, int d) {
            return d >= from[c] && d <= to[c];
        }

        /** One walk is enough, since claims lean on and fall by lesser numbers alone. */
        int standing(int set) {
            int standing = 0;
            for (int c = 0; c < claims; c++) {
                boolean held = (leans[c] & ~standing) == 0 && (falls[c] & standing) == 0;
                if (held && (set >> c & 1) == 1) {
                    standing |= 1 << c;
                }
            }
            return standing;
        }

        boolean endStands(int set) {
            return hasClaim(end) && (standing(set) >> end & 1) == 1;
        }

        boolean addToPlan(int c) {
            if (planned >= MOST_PLANNED) {
                return false;
            }
            plan[planned] = c;
            planned++;
            return true;
        }

        boolean addSeen(int set, boolean stood) {
            if (seen >= MOST_SEEN) {
                return false;
            }
            seenSets[seen] = set;
            int bit = 1 << seen;
            seenStood = stood ? seenStood | bit : seenStood & ~bit;
            seen++;
            return true;
        }
    }

    /** The bytes that were fed, and how they are read as a text. */
    private static final class Tape {
        private static final int OVER = 0, NAME = 1, NUMBER = 2, STOP = 3, NEITHER = 4;
        private static final int NO_TOKEN = 1, MISPLACED = 2, OUT_OF_BOUNDS = 3;
        private static final int TWICE = 4, TOO_MANY = 5, NO_CLAIM = 6;
        private static final int MOST_FIGURES = 2;

        final byte[] bytes = new byte[TAPE_BYTES];
        int length;
        int fault;
        int faultPlace;
        /** The token read last: its kind, where it begins, where it is over, its number. */
        private int kind;
        private int start;
        private int place;
        private int value;
        private boolean endTold;
        private boolean dayTold;

        boolean append(int c) {
            if (length >= TAPE_BYTES) {
                return false;
            }
            bytes[length] = (byte) c;
            length++;
            return true;
        }

        /** Reads all into a draft, so that a fault leaves what was told before; answers how many lines. */
        int tell(Suit draft) {
            draft.empty();
            fault = 0;
            faultPlace = 0;
            place = 0;
            endTold = false;
            dayTold = false;
            int lines = 0;
            for (int i = 0; i <= TAPE_BYTES; i++) {
                if (!readToken() || kind == OVER || !readLine(draft)) {
                    break;
                }
                lines++;
            }
            if (fault == 0) {
                close(draft);
            }
            length = 0;
            return lines;
        }

        private boolean refuse(int which, int where) {
            fault = which;
            faultPlace = where;
            return false;
        }

        private void close(Suit draft) {
            if (!endTold) {
                draft.end = draft.claims == 0 ? NONE : draft.claims - 1;
            }
            boolean all = draft.hasSet(draft.said) && (!endTold || draft.hasClaim(draft.end));
            for (int i = 0; i < draft.planned; i++) {
                all = all && draft.hasClaim(draft.plan[i]);
            }
            if (!all) {
                refuse(NO_CLAIM, length);
            }
        }

        private boolean readLine(Suit draft) {
            if (isWord("river")) {
                return readClaim(draft, RIVER);
            }
            if (isWord("bridge")) {
                return readClaim(draft, BRIDGE);
            }
            if (isWord("ferry")) {
                return readClaim(draft, FERRY);
            }
            if (isWord("end")) {
                return readEnd(draft);
            }
            if (isWord("plan")) {
                return readPlan(draft);
            }
            if (isWord("said")) {
                return readSaid(draft);
            }
            if (isWord("day")) {
                return readDay(draft);
            }
            return refuse(MISPLACED, start);
        }

        private boolean readClaim(Suit draft, int side) {
            int c = draft.claims;
            if (c >= MOST_CLAIMS) {
                return refuse(TOO_MANY, start);
            }
            if (!readNumber(0, LAST_DAY)) {
                return false;
            }
            draft.from[c] = value;
            if (!readNumber(value, LAST_DAY)) {
                return false;
            }
            draft.to[c] = value;
            if (!readNumber(0, MOST_YARDS)) {
                return false;
            }
            draft.yards[c] = value;
            draft.sides[c] = side;
            draft.leans[c] = 0;
            draft.falls[c] = 0;
            draft.claims++;
            return readGrounds(draft, c);
        }

        /** What a claim leans on and falls by, up to the stop of its line. */
        private boolean readGrounds(Suit draft, int c) {
            boolean unless = false;
            for (int i = 0; i <= TAPE_BYTES; i++) {
                if (!readToken()) {
                    return false;
                }
                if (kind == NUMBER) {
                    if (!takeGround(draft, c, unless)) {
                        return false;
                    }
                } else if (!unless && isWord("unless")) {
                    unless = true;
                } else if (kind == STOP && (!unless || draft.falls[c] != 0)) {
                    return true;
                } else {
                    break;
                }
            }
            return refuse(MISPLACED, start);
        }

        private boolean takeGround(Suit draft, int c, boolean unless) {
            if (value >= c) {
                return refuse(OUT_OF_BOUNDS, start);
            }
            int bit = 1 << value;
            if (((draft.leans[c] | draft.falls[c]) & bit) != 0) {
                return refuse(TWICE, start);
            }
            if (unless) {
                draft.falls[c] |= bit;
            } else {
                draft.leans[c] |= bit;
            }
            return true;
        }

        private boolean readEnd(Suit draft) {
            if (endTold) {
                return refuse(TWICE, start);
            }
            if (!readNumber(0, MOST_CLAIMS - 1)) {
                return false;
            }
            draft.end = value;
            endTold = true;
            return readStop();
        }

        private boolean readPlan(Suit draft) {
            if (draft.planned >= MOST_PLANNED) {
                return refuse(TOO_MANY, start);
            }
            return readNumber(0, MOST_CLAIMS - 1) && draft.addToPlan(value) && readStop();
        }

        private boolean readSaid(Suit draft) {
            if (!readNumber(0, MOST_CLAIMS - 1)) {
                return false;
            }
            if (draft.isSaid(value)) {
                return refuse(TWICE, start);
            }
            draft.said |= 1 << value;
            return readStop();
        }

        private boolean readDay(Suit draft) {
            if (dayTold) {
                return refuse(TWICE, start);
            }
            if (!readNumber(0, LAST_DAY)) {
                return false;
            }
            draft.day = value;
            dayTold = true;
            return readStop();
        }

        private boolean readNumber(int low, int high) {
            if (!readToken()) {
                return false;
            }
            if (kind != NUMBER) {
                return refuse(MISPLACED, start);
            }
            return within(value, low, high) || refuse(OUT_OF_BOUNDS, start);
        }

        private boolean readStop() {
            return readToken() && (kind == STOP || refuse(MISPLACED, start));
        }

        private boolean readToken() {
            skipBlanks();
            kind = kindAt(start);
            place = kind == OVER ? start : start + 1;
            if (kind == NAME || kind == NUMBER) {
                for (int i = place; i < length && kindAt(i) == kind; i++) {
                    place = i + 1;
                }
            }
            boolean tooLong = kind == NUMBER && place - start > MOST_FIGURES;
            if (kind == NEITHER || tooLong) {
                return refuse(NO_TOKEN, start);
            }
            if (kind == NUMBER) {
                value = figures();
            }
            return true;
        }

        private void skipBlanks() {
            start = place;
            for (int i = place; i < length && bytes[i] == ' '; i++) {
                start = i + 1;
            }
        }

        private int kindAt(int i) {
            if (i < 0 || i >= length) {
                return OVER;
            }
            int c = bytes[i];
            if (c >= 'a' && c <= 'z') {
                return NAME;
            }
            if (c >= '0' && c <= '9') {
                return NUMBER;
            }
            return c == ';' ? STOP : NEITHER;
        }

        private int figures() {
            int number = 0;
            for (int i = start; i < place; i++) {
                number = number * 10 + bytes[i] - '0';
            }
            return number;
        }

        private boolean isWord(String word) {
            if (kind != NAME || place - start != word.length()) {
                return false;
            }
            for (int i = start; i < place; i++) {
                if (bytes[i] != word.charAt(i - start)) {
                    return false;
                }
            }
            return true;
        }
    }

    /** The plan said day by day. */
    private static final class Trial {
        int said;
        int firstLost;
        int lost;

        /** Bit i of the floods: one comes on the day of the plan's claim i. */
        void hold(Suit suit, int floods) {
            said = suit.said;
            firstLost = NONE;
            lost = 0;
            for (int i = 0; i < suit.planned; i++) {
                int c = suit.plan[i];
                boolean flood = (floods >> i & 1) == 1;
                // Behind the last day no claim is in time, so what is left over is lost as well.
                if (!flood && suit.inTime(c, suit.day + i) && (said >> c & 1) == 0) {
                    said |= 1 << c;
                } else {
                    firstLost = lost == 0 ? i : firstLost;
                    lost++;
                }
            }
        }
    }

    /** The river and the bridge in turn, reckoned backwards from the last day. */
    private static final class Game {
        /** Whether the river wins from the day reached, for each set that is said by then. */
        private final boolean[] wins = new boolean[MOST_SETS];

        boolean riverWins(int set) {
            return set >= 0 && set < MOST_SETS && wins[set];
        }

        /** Reckons back to a day; answers the days met from which the river wins with what is said now. */
        int solve(Suit suit, int first) {
            for (int set = 0; set < 1 << suit.claims; set++) {
                wins[set] = (set & suit.said) == suit.said && suit.endStands(set);
            }
            int days = 0;
            for (int d = LAST_DAY; d >= first; d--) {
                stepBack(suit, d);
                if (riverWins(suit.said)) {
                    days |= 1 << d;
                }
            }
            return days;
        }

        /** Sets go upwards, so that a larger one still tells of the day after. */
        private void stepBack(Suit suit, int d) {
            boolean river = mover(d) == RIVER;
            int sayable = sayableOn(suit, d);
            for (int set = suit.said; set < 1 << suit.claims; set++) {
                boolean reached = (set & suit.said) == suit.said;
                if (reached && wins[set] != river && leastWinning(set, sayable, river) != NONE) {
                    wins[set] = river;
                }
            }
        }

        private static int mover(int d) {
            return (d & 1) == 0 ? RIVER : BRIDGE;
        }

        private static int sayableOn(Suit suit, int d) {
            int sayable = 0;
            for (int c = 0; c < suit.claims; c++) {
                if (suit.sides[c] == mover(d) && suit.inTime(c, d)) {
                    sayable |= 1 << c;
                }
            }
            return sayable;
        }

        /** The least claim by which, said beside a set, the one who says it wins. */
        private int leastWinning(int set, int sayable, boolean river) {
            int left = sayable & ~set;
            for (int c = 0; c < MOST_CLAIMS; c++) {
                if ((left >> c & 1) == 1 && riverWins(set | 1 << c) == river) {
                    return c;
                }
            }
            return NONE;
        }

        /** What to say on the suit's day, when the day after has been reckoned. */
        int bestSaying(Suit suit) {
            boolean river = mover(suit.day) == RIVER;
            if (riverWins(suit.said) == river) {
                return NONE;
            }
            return leastWinning(suit.said, sayableOn(suit, suit.day), river);
        }
    }

    /** By which sets the end could fall, so that all would be as it was seen. */
    private static final class Law {
        int could;
        int fitting;
        int least;
        int inAll;
        int inSome;
        /** Of each set seen: the lesser claims that stand, whether the end has all it leans on. */
        private final int[] standing = new int[MOST_SEEN];
        private final boolean[] ready = new boolean[MOST_SEEN];

        void search(Suit suit) {
            fitting = 0;
            least = 0;
            could = 0;
            inSome = 0;
            if (suit.hasClaim(suit.end)) {
                could = (1 << suit.end) - 1 & ~suit.leans[suit.end];
                prepare(suit);
            }
            inAll = could;
            for (int set = 0; set <= could; set++) {
                if ((set & ~could) == 0 && agrees(suit, set)) {
                    least = fitting == 0 ? set : least;
                    fitting++;
                    inAll &= set;
                    inSome |= set;
                }
            }
        }

        /** What the lesser claims do does not hang on the set tried. */
        private void prepare(Suit suit) {
            int leans = suit.leans[suit.end];
            for (int i = 0; i < suit.seen; i++) {
                standing[i] = suit.standing(suit.seenSets[i]);
                ready[i] = (suit.seenSets[i] >> suit.end & 1) == 1 && (leans & ~standing[i]) == 0;
            }
        }

        private boolean agrees(Suit suit, int set) {
            for (int i = 0; i < suit.seen; i++) {
                boolean stands = ready[i] && (standing[i] & set) == 0;
                if (stands != ((suit.seenStood >> i & 1) == 1)) {
                    return false;
                }
            }
            return true;
        }
    }

    /** A row of cells of a lane, or nothing; the row is made once and used again. */
    private static final class Sheet {
        private static final int NOTHING = -1, BYTES = 0, SHORTS = 1;

        final int[] cells = new int[MOST_CELLS];
        int lane;
        int size = NOTHING;

        boolean blank() {
            return size == NOTHING;
        }

        void renew(int newLane, int n) {
            lane = newLane;
            size = n;
            for (int i = 0; i < MOST_CELLS; i++) {
                cells[i] = 0;
            }
        }

        /** What a machine would find that takes the row as of a lane and looks at a cell. */
        int faultOf(int asLane, int i) {
            if (blank()) {
                return NULL_FAULT;
            }
            if (asLane != lane) {
                return CAST_FAULT;
            }
            return within(i, 0, size - 1) ? 0 : INDEX_FAULT;
        }

        void put(int i, int v) {
            switch (lane) {
                case BYTES:
                    cells[i] = (byte) v;
                    break;
                case SHORTS:
                    cells[i] = (short) v;
                    break;
                default:
                    cells[i] = v;
            }
        }
    }
}
