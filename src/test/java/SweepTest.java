import java.util.LinkedHashMap;
import java.util.Map;

/** Each call with each number about a bound, the least and the greatest int, each answer compared with the model's. */
public final class SweepTest {
    private static final Check CHECK = new Check("SweepTest");
    private static final int MIN = Integer.MIN_VALUE, MAX = Integer.MAX_VALUE;
    /** Calls behind which an object is made anew, so that it stays within its 512. */
    private static final int MOST_CALLS = 150;
    private static final int[] WIDE = {MIN, MIN + 1, MIN + 7, -65537, -65536, -32769, -257, -256, -129, -128, -41, -32,
        -21, -20, -14, -11, -10, -9, -5, -4, -3, -2, -1, 0, 1, 2, 3, 4, 5, 6, 7, 8, 9, 10, 11, 19, 20, 21, 31, 32, 33,
        39, 40, 41, 59, 60, 61, 63, 64, 65, 126, 127, 128, 129, 159, 160, 161, 254, 255, 256, 257, 263, 32767, 32768,
        65535, 65536, 65543, MAX - 1, MAX};
    private static final int[] NEAR = {MIN, -256, -32, -2, -1, 0, 1, 2, 3, 4, 5, 7, 8, 9, 10, 11, 32, 256, MAX};
    private static final int[] FEW = {MIN, -1, 0, 1, 2, 3, 4, 32, MAX};
    private static final int[] BOTH = {0, 1};
    private static final int[] TIMES = {MIN, -1, 0, 1, 2, 3, 4, 19, 20, 21, MAX};
    private static final int[] CELLS = {MIN, MIN + 1, -3, -2, -1, 0, 1, 2, 3, 4, 7, 8, 38, 39, 40, 41, MAX - 19, MAX};

    private static final String THREE = "river 0 9 2;bridge 1 5 3 0;ferry 2 2 1 unless 1;";
    private static final String[] NONE = {};
    private static final String[] ORDINARY = {"see 1 0", "keep 0", "yards 0 4", "say 0", "say 2", "see 3 1",
        "sheet 0 0 3", "lay 0 0 1", "lay 0 2 2", "sheet 2 2 2", "lay 2 1 1", "sheet 3 1 0", "read 0 0 3 1"};
    private static final String[] FULL = {"plans 0", "plans 1", "plans 2", "plans 3", "plans 4", "plans 5", "see 128 1",
        "see 192 0", "see 1 0", "see 136 1", "see 130 1", "see 255 0", "keep 0", "say 0", "say 1", "say 2", "say 3",
        "keep 1", "sheet 0 0 40", "sheet 1 1 40", "sheet 2 2 40", "sheet 3 0 40", "lay 0 1 4", "lay 0 0 5", "lay 1 2 7",
        "lay 1 39 6", "lay 2 0 6", "lay 2 1 7", "lay 2 2 4", "lay 2 3 5", "lay 3 0 -1"};

    private interface Ask<T> {
        long on(T it, int... a);
    }

    private record Call(Ask<RiverSuit> x, Ask<Model> model, int[]... pools) {
    }

    private static final Map<String, Call> CALLS = new LinkedHashMap<>();

    static {
        textCalls();
        changeCalls();
        standCalls();
        endCalls();
        sheetCalls();
    }

    private final String text;
    private final String[] first;
    private RiverSuit x;
    private Model model;
    private int calls;

    private SweepTest(String text, String[] first) {
        this.text = text;
        this.first = first;
    }

    public static void main(String[] args) {
        new SweepTest("", NONE).sweep();
        new SweepTest(THREE + "end 1;day 2;plan 2;plan 0;", ORDINARY).sweep();
        new SweepTest(Some.EIGHT, FULL).sweep();
        new SweepTest(Some.alike(1) + "day 9;", NONE).sweep();
        CHECK.isTrue("all calls were swept", CALLS.size() == 41);
        CHECK.close();
    }

    private void sweep() {
        for (String name : CALLS.keySet()) {
            renew();
            int[][] pools = CALLS.get(name).pools();
            each(name, pools, new int[pools.length], 0);
        }
    }

    private void each(String name, int[][] pools, int[] args, int filled) {
        if (filled == args.length) {
            if (calls >= MOST_CALLS) {
                renew();
            }
            if (ask(name, args) >= 0 && changes(name)) {
                compare(name, args);
                renew();
            }
            return;
        }
        for (int v : pools[filled]) {
            args[filled] = v;
            each(name, pools, args, filled + 1);
        }
    }

    private static boolean changes(String name) {
        return switch (name) {
            case "end", "text", "say", "drop", "day", "aim", "leans", "falls", "yards", "plans", "cut", "see", "forget",
                "back", "sheet", "read" -> true;
            default -> false;
        };
    }

    /** What is there behind a change, by calls that change nothing. */
    private void compare(String name, int[] args) {
        for (int what = 0; what <= 5; what++) {
            ask("rule", what);
            ask("count", what);
            ask("plan", what);
            ask("fits", what);
        }
        for (int c = 0; c < x.rule(0); c++) {
            for (int what = 3; what <= 6; what++) {
                ask("claim", c, what);
            }
        }
        ask("torn");
        ask("fault");
    }

    private void renew() {
        x = new RiverSuit();
        model = new Model();
        for (int i = 0; i < text.length(); i++) {
            ask("feed", text.charAt(i));
        }
        ask("text");
        for (String line : first) {
            String[] parts = line.split(" ");
            int[] args = new int[parts.length - 1];
            for (int i = 0; i < args.length; i++) {
                args[i] = Integer.parseInt(parts[i + 1]);
            }
            ask(parts[0], args);
        }
        ask("feed", ' ');
        ask("feed", '?');
        calls = 0;
    }

    private long ask(String name, int... args) {
        Call call = CALLS.get(name);
        long got = call.x().on(x, args);
        CHECK.due(name + java.util.Arrays.toString(args), got, call.model().on(model, args));
        calls++;
        return got;
    }

    private static void put(String name, Ask<RiverSuit> x, Ask<Model> model, int[]... pools) {
        CALLS.put(name, new Call(x, model, pools));
    }

    private static void textCalls() {
        put("feed", (x, a) -> x.feed(a[0]), (m, a) -> m.feed(a[0]), WIDE);
        put("end", (x, a) -> x.end(a[0]), (m, a) -> m.end(a[0]), WIDE);
        put("text", (x, a) -> x.text(), (m, a) -> m.text());
        put("fault", (x, a) -> x.fault(), (m, a) -> m.fault());
        put("rule", (x, a) -> x.rule(a[0]), (m, a) -> m.rule(a[0]), WIDE);
        put("claim", (x, a) -> x.claim(a[0], a[1]), (m, a) -> m.claim(a[0], a[1]), WIDE, WIDE);
        put("plan", (x, a) -> x.plan(a[0]), (m, a) -> m.plan(a[0]), WIDE);
    }

    private static void changeCalls() {
        put("say", (x, a) -> x.say(a[0]), (m, a) -> m.say(a[0]), WIDE);
        put("drop", (x, a) -> x.drop(a[0]), (m, a) -> m.drop(a[0]), WIDE);
        put("day", (x, a) -> x.day(a[0]), (m, a) -> m.day(a[0]), WIDE);
        put("aim", (x, a) -> x.aim(a[0]), (m, a) -> m.aim(a[0]), WIDE);
        put("leans", (x, a) -> x.leans(a[0], a[1], a[2] == 1), (m, a) -> m.leans(a[0], a[1], a[2] == 1),
                NEAR, NEAR, BOTH);
        put("falls", (x, a) -> x.falls(a[0], a[1], a[2] == 1), (m, a) -> m.falls(a[0], a[1], a[2] == 1),
                NEAR, NEAR, BOTH);
        put("yards", (x, a) -> x.yards(a[0], a[1]), (m, a) -> m.yards(a[0], a[1]), NEAR, NEAR);
        put("plans", (x, a) -> x.plans(a[0]), (m, a) -> m.plans(a[0]), WIDE);
        put("cut", (x, a) -> x.cut(a[0]), (m, a) -> m.cut(a[0]), WIDE);
    }

    private static void standCalls() {
        put("stands", (x, a) -> x.stands(a[0]), (m, a) -> m.stands(a[0]), WIDE);
        put("sum", (x, a) -> x.sum(a[0]), (m, a) -> m.sum(a[0]), WIDE);
        put("upon", (x, a) -> x.upon(a[0]), (m, a) -> m.upon(a[0]), WIDE);
        put("reply", (x, a) -> x.reply(a[0], a[1]), (m, a) -> m.reply(a[0], a[1]), WIDE, NEAR);
        put("ever", (x, a) -> x.ever(a[0]), (m, a) -> m.ever(a[0]), WIDE);
        put("chain", (x, a) -> x.chain(a[0]), (m, a) -> m.chain(a[0]), WIDE);
        put("late", (x, a) -> x.late(), (m, a) -> m.late());
    }

    private static void endCalls() {
        put("few", (x, a) -> x.few(a[0]), (m, a) -> m.few(a[0]), WIDE);
        put("foil", (x, a) -> x.foil(a[0]), (m, a) -> m.foil(a[0]), WIDE);
        put("trial", (x, a) -> x.trial(a[0]), (m, a) -> m.trial(a[0]), WIDE);
        put("luck", (x, a) -> x.luck(a[0], a[1]), (m, a) -> m.luck(a[0], a[1]), WIDE, NEAR);
        put("game", (x, a) -> x.game(a[0]), (m, a) -> m.game(a[0]), WIDE);
        put("days", (x, a) -> x.days(), (m, a) -> m.days());
        put("share", (x, a) -> x.share(a[0], a[1]), (m, a) -> m.share(a[0], a[1]), NEAR, FEW);
        put("see", (x, a) -> x.see(a[0], a[1] == 1), (m, a) -> m.see(a[0], a[1] == 1), WIDE, BOTH);
        put("forget", (x, a) -> x.forget(a[0]), (m, a) -> m.forget(a[0]), WIDE);
        put("fits", (x, a) -> x.fits(a[0]), (m, a) -> m.fits(a[0]), WIDE);
        put("drift", (x, a) -> x.drift(a[0], a[1], a[2]), (m, a) -> m.drift(a[0], a[1], a[2]),
                FEW, new int[] {MIN, -1, 0, 1, 2, 59, 60, 61, MAX}, FEW);
    }

    private static void sheetCalls() {
        put("keep", (x, a) -> x.keep(a[0]), (m, a) -> m.keep(a[0]), WIDE);
        put("back", (x, a) -> x.back(a[0]), (m, a) -> m.back(a[0]), WIDE);
        put("sheet", (x, a) -> x.sheet(a[0], a[1], a[2]), (m, a) -> m.sheet(a[0], a[1], a[2]), FEW, FEW, CELLS);
        put("lay", (x, a) -> x.lay(a[0], a[1], a[2]), (m, a) -> m.lay(a[0], a[1], a[2]), FEW, CELLS, FEW);
        put("read", (x, a) -> x.read(a[0], a[1], a[2], a[3]), (m, a) -> m.read(a[0], a[1], a[2], a[3]),
                FEW, FEW, CELLS, TIMES);
        put("torn", (x, a) -> x.torn(), (m, a) -> m.torn());
        put("count", (x, a) -> x.count(a[0]), (m, a) -> m.count(a[0]), WIDE);
    }
}
