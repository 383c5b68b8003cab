import java.util.Random;

/** Long runs of calls by a seed, each answer compared with the model's. */
public final class ModelTest {
    private static final Check CHECK = new Check("ModelTest");
    /** The document leaves free what an object answers behind its 512th call. */
    private static final int RUNS = 1200, MOST_CALLS = 512, CALLS_TO_TELL = 163, CALLS_TO_ASK = 3;
    private static final String[] SIDES = {"river", "bridge", "ferry"};
    private static final String[] ODD = {"?", " ", ";", "0", "9", "10", "100", "unless", "river", "end 0;", "day 1;",
        "x", "said 0;", "plan 1;", "A", "99", "bridge 0 9"};

    private final Random random;
    private final RiverSuit x = new RiverSuit();
    private final Model model = new Model();
    private final int run;
    private int claims;
    private int calls;

    private ModelTest(int run) {
        this.run = run;
        random = new Random(run);
    }

    public static void main(String[] args) {
        for (int run = 0; run < RUNS; run++) {
            new ModelTest(run).play();
        }
        CHECK.close();
    }

    private void play() {
        // Some runs begin with no claims, some stay so.
        if (run % 20 != 0) {
            tell(text(run % 3 == 0 ? 1 + random.nextInt(8) : 1 + random.nextInt(6)));
        }
        while (calls + CALLS_TO_ASK <= MOST_CALLS) {
            int kind = calls + CALLS_TO_TELL <= MOST_CALLS ? random.nextInt(150) : 2;
            if (kind == 0 && run % 40 != 0) {
                tell(text(random.nextInt(9)));
            } else if (kind == 1) {
                tell(spoilt(text(random.nextInt(9))));
            } else {
                ask(random.nextInt(41));
            }
        }
    }

    private void tell(String text) {
        due("end(0)", x.end(0), model.end(0));
        String taken = text.length() > 160 ? text.substring(0, 160) : text;
        for (int i = 0; i < taken.length(); i++) {
            due("feed", x.feed(taken.charAt(i)), model.feed(taken.charAt(i)));
        }
        due("text() of " + taken, x.text(), model.text());
        due("fault() of " + taken, x.fault(), model.fault());
        claims = (int) model.rule(0);
    }

    private String text(int many) {
        StringBuilder text = new StringBuilder();
        for (int c = 0; c < many; c++) {
            int from = random.nextInt(2) == 0 ? 0 : random.nextInt(10);
            int to = random.nextInt(2) == 0 ? 9 : from + random.nextInt(10 - from);
            text.append(SIDES[random.nextInt(8) % 3]).append(' ').append(from).append(' ').append(to).append(' ')
                    .append(random.nextInt(10));
            StringBuilder falls = new StringBuilder();
            for (int d = 0; d < c; d++) {
                int bond = random.nextInt(many > 5 ? 7 : 4);
                if (bond == 0) {
                    text.append(' ').append(d);
                } else if (bond == 1) {
                    falls.append(' ').append(d);
                }
            }
            text.append(falls.length() > 0 ? " unless" : "").append(falls).append(';');
        }
        if (many > 0 && random.nextInt(3) == 0) {
            text.append("end ").append(random.nextInt(many)).append(';');
        }
        while (many > 0 && random.nextInt(2) == 0) {
            text.append(random.nextInt(3) == 0 ? "said " : "plan ").append(random.nextInt(many)).append(';');
        }
        if (random.nextInt(3) == 0) {
            text.append("day ").append(random.nextInt(10)).append(';');
        }
        return text.toString();
    }

    private String spoilt(String text) {
        StringBuilder spoilt = new StringBuilder(text);
        for (int i = 0; i <= random.nextInt(2); i++) {
            int place = random.nextInt(spoilt.length() + 1);
            switch (random.nextInt(4)) {
                case 0 -> spoilt.insert(place, ODD[random.nextInt(ODD.length)]);
                case 1 -> spoilt.setLength(place);
                case 2 -> spoilt.delete(place, Math.min(spoilt.length(), place + 1 + random.nextInt(3)));
                default -> spoilt.insert(place, (char) random.nextInt(128));
            }
        }
        return spoilt.toString();
    }

    /** Mostly a number in bounds, now and then one just out of them or far away. */
    private int any(int low, int high) {
        int kind = random.nextInt(60);
        if (kind == 0) {
            return low - 1;
        }
        if (kind == 1) {
            return high + 1;
        }
        if (kind == 2) {
            return random.nextInt();
        }
        return high < low ? low : low + random.nextInt(high - low + 1);
    }

    private int claim() {
        return any(0, claims - 1);
    }

    private int set() {
        return any(0, (1 << claims) - 1);
    }

    private void ask(int call) {
        if (call < 17) {
            change(call);
        } else if (call < 31) {
            look(call);
        } else {
            rest(call);
        }
    }

    private void change(int call) {
        int a = claim();
        int b = claim();
        boolean is = random.nextBoolean();
        switch (call) {
            case 0 -> a = any(0, 127);
            case 1 -> a = any(0, (int) model.count(4));
            case 4, 6 -> a = any(0, 5);
            case 5 -> b = any(0, 6);
            case 10 -> a = any(0, 9);
            case 12, 13 -> b = any(0, a - 1);
            case 14 -> b = any(0, 9);
            case 16 -> a = any(0, (int) model.rule(5));
            default -> { }
        }
        switch (call) {
            case 0 -> due("feed(" + a + ")", x.feed(a), model.feed(a));
            case 1 -> due("end(" + a + ")", x.end(a), model.end(a));
            case 2 -> due("say(" + a + ")", x.say(a), model.say(a));
            case 3 -> due("fault()", x.fault(), model.fault());
            case 4 -> due("rule(" + a + ")", x.rule(a), model.rule(a));
            case 5 -> due("claim(" + a + ", " + b + ")", x.claim(a, b), model.claim(a, b));
            case 6 -> due("plan(" + a + ")", x.plan(a), model.plan(a));
            case 7, 8 -> due("say(" + a + ")", x.say(a), model.say(a));
            case 9 -> due("drop(" + a + ")", x.drop(a), model.drop(a));
            case 10 -> due("day(" + a + ")", x.day(a), model.day(a));
            case 11 -> due("aim(" + a + ")", x.aim(a), model.aim(a));
            case 12 -> due("leans(" + a + ", " + b + ", " + is + ")", x.leans(a, b, is), model.leans(a, b, is));
            case 13 -> due("falls(" + a + ", " + b + ", " + is + ")", x.falls(a, b, is), model.falls(a, b, is));
            case 14 -> due("yards(" + a + ", " + b + ")", x.yards(a, b), model.yards(a, b));
            case 15 -> due("plans(" + a + ")", x.plans(a), model.plans(a));
            default -> due("cut(" + a + ")", x.cut(a), model.cut(a));
        }
    }

    private void look(int call) {
        int a = claim();
        int what = any(0, 1);
        int four = any(0, 3);
        int v = any(0, 10);
        int side = any(0, 2);
        int set = set();
        switch (call) {
            case 17 -> due("stands(" + set + ")", x.stands(set), model.stands(set));
            case 18 -> due("sum(" + side + ")", x.sum(side), model.sum(side));
            case 19 -> due("upon(" + a + ")", x.upon(a), model.upon(a));
            case 20 -> due("reply(" + a + ", " + what + ")", x.reply(a, what), model.reply(a, what));
            case 21 -> due("ever(" + what + ")", x.ever(what), model.ever(what));
            case 22 -> due("chain(" + a + ")", x.chain(a), model.chain(a));
            case 23 -> due("late()", x.late(), model.late());
            case 24 -> due("few(" + what + ")", x.few(what), model.few(what));
            case 25 -> due("foil(" + what + ")", x.foil(what), model.foil(what));
            case 26 -> due("trial(" + four + ")", x.trial(four), model.trial(four));
            case 27 -> due("luck(" + v + ", " + what + ")", x.luck(v, what), model.luck(v, what));
            case 28 -> due("game(" + what + ")", x.game(what), model.game(what));
            case 29 -> due("days()", x.days(), model.days());
            default -> {
                if (claims < 7 || random.nextInt(40) == 0) {
                    due("share(" + a + ", " + what + ")", x.share(a, what), model.share(a, what));
                }
            }
        }
    }

    private void rest(int call) {
        int k = any(0, 3);
        int lane = random.nextInt(3) == 0 ? any(0, 2) : k % 3;
        int what = any(0, 1);
        int four = any(0, 3);
        int six = any(0, 5);
        int set = set();
        int n = any(0, (int) model.count(2));
        int times = any(1, 60);
        int seed = random.nextInt();
        int cell = any(0, 7);
        int v = random.nextInt(5) == 0 ? random.nextInt() : any(0, 7) + (random.nextInt(3) << 8 * random.nextInt(3));
        int size = random.nextInt(4) == 0 ? any(0, 40) : any(0, 7);
        int read = random.nextInt(4) == 0 ? any(0, 20) : any(0, 3);
        boolean is = random.nextInt(4) == 0;
        switch (call) {
            case 31 -> due("see(" + set + ", " + is + ")", x.see(set, is), model.see(set, is));
            case 32 -> due("forget(" + n + ")", x.forget(n), model.forget(n));
            case 33 -> due("fits(" + four + ")", x.fits(four), model.fits(four));
            case 34 -> due("drift(" + seed + ", " + times + ", " + what + ")",
                    x.drift(seed, times, what), model.drift(seed, times, what));
            case 35 -> due("keep(" + what + ")", x.keep(what), model.keep(what));
            case 36 -> due("back(" + what + ")", x.back(what), model.back(what));
            case 37 -> due("sheet(" + k + ", " + lane + ", " + size + ")",
                    x.sheet(k, lane, size), model.sheet(k, lane, size));
            case 38 -> due("lay(" + k + ", " + cell + ", " + v + ")", x.lay(k, cell, v), model.lay(k, cell, v));
            case 39 -> {
                due("read(" + k + ", " + lane + ", " + cell + ", " + read + ")",
                        x.read(k, lane, cell, read), model.read(k, lane, cell, read));
                due("torn()", x.torn(), model.torn());
                due("rule(3)", x.rule(3), model.rule(3));
            }
            default -> due("count(" + six + ")", x.count(six), model.count(six));
        }
    }

    private void due(String call, long got, long want) {
        calls++;
        CHECK.due("run " + run + ": " + call, got, want);
    }
}
