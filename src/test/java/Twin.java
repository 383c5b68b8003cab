import java.util.ArrayList;
import java.util.Arrays;
import java.util.List;
import java.util.function.Supplier;

/** Two objects made alike: what is asked of one must leave it as the other is, in all that can be asked. */
final class Twin {
    /** Behind the fewer than 260 calls of a sample these stay within the 512 of an object. */
    private static final int MOST_ANSWERS = 250;

    interface Call {
        long on(RiverSuit x);
    }

    interface CallOf {
        long on(RiverSuit x, int v);
    }

    private final Check check;
    private final String name;
    private final Supplier<RiverSuit> make;

    Twin(Check check, String name, Supplier<RiverSuit> make) {
        this.check = check;
        this.name = name;
        this.make = make;
    }

    /** The call answers so, and nothing has changed. */
    void keeps(String call, Call asked, long due) {
        check.due(name + ": " + call, asked.on(unchanged(call, asked)), due);
    }

    /** Whatever the call answers: nothing has changed. Answers an object that was not asked yet. */
    RiverSuit unchanged(String call, Call asked) {
        RiverSuit one = make.get();
        RiverSuit other = make.get();
        asked.on(one);
        check.due(name + ": fault() behind " + call, one.fault(), other.fault());
        List<Long> ones = all(one);
        List<Long> others = all(other);
        check.isTrue(name + ": nothing changed by " + call, ones.equals(others));
        check.isTrue(name + ": few enough calls: " + ones.size(), ones.size() <= MOST_ANSWERS);
        return make.get();
    }

    /** Each number outside of the bounds is BAD, and nothing has changed. */
    void bad(String call, CallOf asked, int low, int high) {
        for (int v : outside(low, high)) {
            keeps(call + " of " + v, x -> asked.on(x, v), RiverSuit.BAD);
        }
    }

    /** The first on each side, the least and the greatest int, and what would be within if bits were lost. */
    static int[] outside(int low, int high) {
        int[] far = {low - 1, high + 1, Integer.MIN_VALUE, Integer.MAX_VALUE, low + 32, low + 64, low + 256,
            low + 65536, high - 32, high - 256, high - 65536, low ^ Integer.MIN_VALUE, ~low, -1 - high};
        return Arrays.stream(far).filter(v -> v < low || v > high).distinct().toArray();
    }

    /** All that can be asked but fault(), each call's answer; the object is changed by it. */
    static List<Long> all(RiverSuit x) {
        List<Long> told = new ArrayList<>();
        ask(told, x.torn());
        for (int what = 0; what <= 5; what++) {
            ask(told, x.count(what));
        }
        state(x, told);
        seen(x, told);
        for (int k = 0; k < 2; k++) {
            if (ask(told, x.back(k)) >= 0) {
                state(x, told);
            }
        }
        bare(x, told);
        for (int k = 0; k < 4; k++) {
            cells(x, k, told);
        }
        ask(told, x.text());
        ask(told, x.fault());
        state(x, told);
        return told;
    }

    private static long ask(List<Long> told, long answer) {
        told.add(answer);
        return answer;
    }

    /** What is told of the claims; sides and days of many are left out, for the sake of the 512 calls. */
    static void state(RiverSuit x, List<Long> told) {
        long claims = ask(told, x.rule(0));
        for (int what : new int[] {1, 2, 3, 5}) {
            ask(told, x.rule(what));
        }
        for (int c = 0; c < claims; c++) {
            for (int what = claims > 3 ? 3 : 0; what <= 5; what++) {
                ask(told, x.claim(c, what));
            }
        }
        for (int i = 0; i < 6; i++) {
            ask(told, x.plan(i));
        }
        for (int what = 0; what <= 2; what++) {
            ask(told, x.fits(what));
        }
    }

    /** One after another is forgotten, so that each shows in what fits. */
    private static void seen(RiverSuit x, List<Long> told) {
        for (long n = ask(told, x.count(2)) - 1; n >= 0; n--) {
            ask(told, x.forget((int) n));
            ask(told, x.fits(0));
            ask(told, x.fits(1));
        }
    }

    /** Nothing said, on a day when the claims are in time: cells can be read. */
    private static void bare(RiverSuit x, List<Long> told) {
        ask(told, x.day(2));
        long said = ask(told, x.rule(3));
        for (int c = 0; c < 8; c++) {
            if ((said >> c & 1) == 1) {
                ask(told, x.drop(c));
            }
        }
    }

    /** The first four cells of a sheet, by what is said when they are read. */
    private static void cells(RiverSuit x, int k, List<Long> told) {
        for (int lane = 0; lane < 3; lane++) {
            for (int i = 0; i < 4; i++) {
                long came = ask(told, x.read(k, lane, i, 1));
                if (came == 0) {
                    ask(told, x.torn());
                    break;
                }
                if (came == 1) {
                    long said = ask(told, x.rule(3));
                    ask(told, x.drop(Long.numberOfTrailingZeros(said)));
                }
            }
        }
    }
}
