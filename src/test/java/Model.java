import java.math.BigInteger;
import java.util.ArrayList;
import java.util.Collections;
import java.util.HashMap;
import java.util.List;
import java.util.Map;
import java.util.Set;
import java.util.TreeSet;

/** The document once more, slow and by its words, with sets and exceptions, to compare the class with. */
final class Model {
    private static final long BAD = -1, STATE = -2, FULL = -3, NONE = -4;

    private static final class Claim {
        int side;
        int from;
        int to;
        int yards;
        Set<Integer> leans = new TreeSet<>();
        Set<Integer> falls = new TreeSet<>();

        Claim copy() {
            Claim c = new Claim();
            c.side = side;
            c.from = from;
            c.to = to;
            c.yards = yards;
            c.leans = new TreeSet<>(leans);
            c.falls = new TreeSet<>(falls);
            return c;
        }

        boolean inTime(int day) {
            return from <= day && day <= to;
        }
    }

    private record Seen(Set<Integer> set, boolean stood) {
    }

    private static final class All {
        List<Claim> claims = new ArrayList<>();
        Set<Integer> said = new TreeSet<>();
        List<Integer> plan = new ArrayList<>();
        List<Seen> seen = new ArrayList<>();
        int end = -1;
        int day;

        All copy() {
            All a = new All();
            for (Claim c : claims) {
                a.claims.add(c.copy());
            }
            a.said.addAll(said);
            a.plan.addAll(plan);
            a.seen.addAll(seen);
            a.end = end;
            a.day = day;
            return a;
        }
    }

    private static final class Fault extends Exception {
        private static final long serialVersionUID = 1;
        final int number;
        final int place;

        Fault(int number, int place) {
            this.number = number;
            this.place = place;
        }
    }

    private All all = new All();
    private final All[] images = new All[2];
    private final Object[] sheets = new Object[4];
    private String tape = "";
    private int fault;
    private int torn;

    // ---- the text

    long feed(int c) {
        if (c < 0 || c > 127) {
            return BAD;
        }
        if (tape.length() == 160) {
            return FULL;
        }
        tape += (char) c;
        return tape.length();
    }

    long end(int n) {
        if (n < 0 || n > tape.length()) {
            return BAD;
        }
        int had = tape.length();
        tape = tape.substring(0, n);
        return had;
    }

    private int at;
    private int begun;

    /** The next token, "" at the end. */
    private String token() throws Fault {
        String rest = tape.substring(at);
        String bare = rest.replaceFirst("^ +", "");
        at += rest.length() - bare.length();
        begun = at;
        if (bare.isEmpty()) {
            return "";
        }
        String taken = bare.replaceFirst("(?s)^([a-z]+|[0-9]+|;).*$", "$1");
        boolean is = taken.matches("[a-z]+|[0-9]{1,2}|;");
        if (!is) {
            throw new Fault(1, begun);
        }
        at += taken.length();
        return taken;
    }

    private int number(int low, int high) throws Fault {
        String t = token();
        if (!t.matches("[0-9]+")) {
            throw new Fault(2, begun);
        }
        int v = Integer.parseInt(t);
        if (v < low || v > high) {
            throw new Fault(3, begun);
        }
        return v;
    }

    private void stop() throws Fault {
        if (!token().equals(";")) {
            throw new Fault(2, begun);
        }
    }

    long text() {
        try {
            All told = new All();
            int lines = parse(told);
            all = told;
            images[0] = null;
            images[1] = null;
            fault = 0;
            return lines;
        } catch (Fault f) {
            fault = f.number;
            return -10 - f.place;
        } finally {
            tape = "";
        }
    }

    private int parse(All told) throws Fault {
        at = 0;
        int lines = 0;
        int end = -1;
        int day = -1;
        for (String t = token(); !t.isEmpty(); t = token()) {
            int side = List.of("river", "bridge", "ferry").indexOf(t);
            if (side >= 0) {
                claimLine(told, side);
            } else if (t.equals("end")) {
                if (end >= 0) {
                    throw new Fault(4, begun);
                }
                end = number(0, 7);
                stop();
            } else if (t.equals("plan")) {
                if (told.plan.size() == 6) {
                    throw new Fault(5, begun);
                }
                told.plan.add(number(0, 7));
                stop();
            } else if (t.equals("said")) {
                if (!told.said.add(number(0, 7))) {
                    throw new Fault(4, begun);
                }
                stop();
            } else if (t.equals("day")) {
                if (day >= 0) {
                    throw new Fault(4, begun);
                }
                day = number(0, 9);
                stop();
            } else {
                throw new Fault(2, begun);
            }
            lines++;
        }
        told.day = Math.max(day, 0);
        told.end = end >= 0 ? end : told.claims.size() - 1;
        List<Integer> named = new ArrayList<>(told.plan);
        named.addAll(told.said);
        named.add(told.end);
        if (Collections.max(named) >= told.claims.size()) {
            throw new Fault(6, tape.length());
        }
        return lines;
    }

    private void claimLine(All told, int side) throws Fault {
        int c = told.claims.size();
        if (c == 8) {
            throw new Fault(5, begun);
        }
        Claim claim = new Claim();
        claim.side = side;
        claim.from = number(0, 9);
        claim.to = number(claim.from, 9);
        claim.yards = number(0, 9);
        Set<Integer> told1 = new TreeSet<>();
        String t = token();
        for (; t.matches("[0-9]+"); t = token()) {
            claim.leans.add(ground(t, c, told1));
        }
        if (t.equals("unless")) {
            t = token();
            if (!t.matches("[0-9]+")) {
                throw new Fault(2, begun);
            }
            for (; t.matches("[0-9]+"); t = token()) {
                claim.falls.add(ground(t, c, told1));
            }
        }
        if (!t.equals(";")) {
            throw new Fault(2, begun);
        }
        told.claims.add(claim);
    }

    private int ground(String t, int c, Set<Integer> told) throws Fault {
        int v = Integer.parseInt(t);
        if (v >= c) {
            throw new Fault(3, begun);
        }
        if (!told.add(v)) {
            throw new Fault(4, begun);
        }
        return v;
    }

    long fault() {
        return fault;
    }

    long rule(int what) {
        return switch (what) {
            case 0 -> all.claims.size();
            case 1 -> all.claims.isEmpty() ? NONE : all.end;
            case 2 -> all.day;
            case 3 -> bits(all.said);
            case 4 -> bits(standing(all.said));
            case 5 -> all.plan.size();
            default -> BAD;
        };
    }

    long claim(int c, int what) {
        if (none(c)) {
            return BAD;
        }
        Claim claim = all.claims.get(c);
        return switch (what) {
            case 0 -> claim.side;
            case 1 -> claim.from;
            case 2 -> claim.to;
            case 3 -> claim.yards;
            case 4 -> bits(claim.leans);
            case 5 -> bits(claim.falls);
            case 6 -> standing(all.said).contains(c) ? 1 : 0;
            default -> BAD;
        };
    }

    long plan(int i) {
        return i < 0 || i >= all.plan.size() ? BAD : all.plan.get(i);
    }

    // ---- what is changed

    long say(int c) {
        if (none(c)) {
            return BAD;
        }
        if (all.said.contains(c) || !all.claims.get(c).inTime(all.day)) {
            return STATE;
        }
        all.said.add(c);
        return standing(all.said).size();
    }

    long drop(int c) {
        if (none(c)) {
            return BAD;
        }
        if (!all.said.remove(c)) {
            return STATE;
        }
        return standing(all.said).size();
    }

    long day(int d) {
        if (d < 0 || d > 9) {
            return BAD;
        }
        int was = all.day;
        all.day = d;
        return was;
    }

    long aim(int c) {
        if (none(c)) {
            return BAD;
        }
        int was = all.end;
        all.end = c;
        return was;
    }

    long leans(int c, int on, boolean is) {
        if (none(c) || none(on) || on >= c) {
            return BAD;
        }
        Claim claim = all.claims.get(c);
        if (is && claim.falls.contains(on)) {
            return STATE;
        }
        boolean was = is ? !claim.leans.add(on) : claim.leans.remove(on);
        return was ? 1 : 0;
    }

    long falls(int c, int by, boolean is) {
        if (none(c) || none(by) || by >= c) {
            return BAD;
        }
        Claim claim = all.claims.get(c);
        if (is && claim.leans.contains(by)) {
            return STATE;
        }
        boolean was = is ? !claim.falls.add(by) : claim.falls.remove(by);
        return was ? 1 : 0;
    }

    long yards(int c, int v) {
        if (none(c) || v < 0 || v > 9) {
            return BAD;
        }
        int was = all.claims.get(c).yards;
        all.claims.get(c).yards = v;
        return was;
    }

    long plans(int c) {
        if (none(c)) {
            return BAD;
        }
        if (all.plan.size() == 6) {
            return FULL;
        }
        all.plan.add(c);
        return all.plan.size();
    }

    long cut(int n) {
        int had = all.plan.size();
        if (n < 0 || n > had) {
            return BAD;
        }
        all.plan = new ArrayList<>(all.plan.subList(0, n));
        return had;
    }

    // ---- what stands

    long stands(int set) {
        return badSet(set) ? BAD : bits(standing(setOf(set)));
    }

    long sum(int side) {
        if (side < 0 || side > 2) {
            return BAD;
        }
        return standing(all.said).stream().map(all.claims::get).filter(c -> c.side == side)
                .mapToInt(c -> c.yards).sum();
    }

    long upon(int c) {
        if (none(c)) {
            return BAD;
        }
        Set<Integer> upon = standing(all.said);
        upon.removeAll(standing(without(all.said, c)));
        return bits(upon);
    }

    long reply(int c, int what) {
        if (none(c) || what < 0 || what > 1) {
            return BAD;
        }
        Set<Integer> by = new TreeSet<>();
        boolean now = standing(all.said).contains(c);
        for (int d = 0; d < all.claims.size(); d++) {
            if (!all.said.contains(d)) {
                boolean then = standing(with(all.said, d)).contains(c);
                if (what == 0 ? now && !then : !now && then) {
                    by.add(d);
                }
            }
        }
        return bits(by);
    }

    long ever(int what) {
        if (what < 0 || what > 1) {
            return BAD;
        }
        Set<Integer> ever = new TreeSet<>();
        for (int c = 0; c < all.claims.size(); c++) {
            boolean never = true;
            boolean always = true;
            for (int set = 0; set < 1 << all.claims.size(); set++) {
                boolean stands = standing(setOf(set)).contains(c);
                never &= !stands;
                always &= stands || !setOf(set).contains(c);
            }
            if (what == 0 ? never : always) {
                ever.add(c);
            }
        }
        return bits(ever);
    }

    long chain(int c) {
        if (none(c)) {
            return BAD;
        }
        long most = 0;
        for (int on : all.claims.get(c).leans) {
            most = Math.max(most, chain(on));
        }
        return most + 1;
    }

    long late() {
        Set<Integer> late = new TreeSet<>();
        for (int c = 0; c < all.claims.size(); c++) {
            boolean can = all.said.contains(c);
            for (int d = all.day; d <= 9; d++) {
                can |= all.claims.get(c).inTime(d);
            }
            if (!can) {
                late.add(c);
            }
        }
        return bits(late);
    }

    // ---- the end

    long few(int what) {
        return fewest(what, true);
    }

    long foil(int what) {
        return fewest(what, false);
    }

    private long fewest(int what, boolean want) {
        if (what < 0 || what > 1) {
            return BAD;
        }
        for (int many = 0; many <= 8 && !all.claims.isEmpty(); many++) {
            for (int set = 0; set < 1 << all.claims.size(); set++) {
                Set<Integer> more = setOf(set);
                if (more.size() == many && Collections.disjoint(more, all.said)) {
                    more.addAll(all.said);
                    if (endStands(more) == want) {
                        return what == 0 ? many : set;
                    }
                }
            }
        }
        return NONE;
    }

    long trial(int what) {
        if (what < 0 || what > 3) {
            return BAD;
        }
        Set<Integer> said = new TreeSet<>(all.said);
        List<Integer> lost = new ArrayList<>();
        int next = 0;
        for (int d = all.day; d <= 9 && next < all.plan.size(); d++, next++) {
            int c = all.plan.get(next);
            if (!all.claims.get(c).inTime(d) || !said.add(c)) {
                lost.add(next);
            }
        }
        for (; next < all.plan.size(); next++) {
            lost.add(next);
        }
        return switch (what) {
            case 0 -> bits(standing(said));
            case 1 -> all.claims.isEmpty() ? NONE : endStands(said) ? 1 : 0;
            case 2 -> lost.isEmpty() ? NONE : lost.get(0);
            default -> lost.size();
        };
    }

    long luck(int v, int what) {
        if (v < 0 || v > 10 || what < 0 || what > 1) {
            return BAD;
        }
        if (all.claims.isEmpty()) {
            return STATE;
        }
        int days = Math.min(10 - all.day, all.plan.size());
        BigInteger good = BigInteger.valueOf(goods(0, days, all.said, v));
        return part(good, BigInteger.TEN.pow(days), what);
    }

    /** By how many of ten for each day left the end stands. */
    private long goods(int i, int days, Set<Integer> said, int v) {
        if (i == days) {
            return endStands(said) ? 1 : 0;
        }
        int c = all.plan.get(i);
        Set<Integer> then = all.claims.get(c).inTime(all.day + i) ? with(said, c) : said;
        return v * goods(i + 1, days, said, v) + (10 - v) * goods(i + 1, days, then, v);
    }

    private static long part(BigInteger top, BigInteger bottom, int what) {
        BigInteger common = top.gcd(bottom);
        return (what == 0 ? top : bottom).divide(common).longValueExact();
    }

    private boolean riverWins(int day, Set<Integer> said, Map<Long, Boolean> known) {
        if (day == 10) {
            return endStands(said);
        }
        Boolean was = known.get(day * 256 + bits(said));
        if (was != null) {
            return was;
        }
        int side = day % 2;
        boolean any = riverWins(day + 1, said, known);
        boolean every = any;
        for (int c = 0; c < all.claims.size(); c++) {
            Claim claim = all.claims.get(c);
            if (claim.side == side && claim.inTime(day) && !said.contains(c)) {
                boolean wins = riverWins(day + 1, with(said, c), known);
                any |= wins;
                every &= wins;
            }
        }
        boolean wins = side == 0 ? any : every;
        known.put(day * 256 + bits(said), wins);
        return wins;
    }

    long game(int what) {
        if (what < 0 || what > 1) {
            return BAD;
        }
        if (all.claims.isEmpty()) {
            return STATE;
        }
        Map<Long, Boolean> known = new HashMap<>();
        if (what == 0) {
            return riverWins(all.day, all.said, known) ? 1 : 0;
        }
        boolean river = all.day % 2 == 0;
        if (riverWins(all.day + 1, all.said, known) == river) {
            return NONE;
        }
        for (int c = 0; c < all.claims.size(); c++) {
            Claim claim = all.claims.get(c);
            if (claim.side == all.day % 2 && claim.inTime(all.day) && !all.said.contains(c)
                    && riverWins(all.day + 1, with(all.said, c), known) == river) {
                return c;
            }
        }
        return NONE;
    }

    long days() {
        if (all.claims.isEmpty()) {
            return STATE;
        }
        Set<Integer> days = new TreeSet<>();
        Map<Long, Boolean> known = new HashMap<>();
        for (int d = 0; d <= 9; d++) {
            if (riverWins(d, all.said, known)) {
                days.add(d);
            }
        }
        return bits(days);
    }

    long share(int c, int what) {
        if (none(c) || what < 0 || what > 1) {
            return BAD;
        }
        long[] sum = new long[2];
        orders(c, new TreeSet<>(), sum);
        return part(BigInteger.valueOf(sum[0]), BigInteger.valueOf(sum[1]), what);
    }

    /** Walks through all orders: sum[0] turns by c, sum[1] orders. */
    private void orders(int c, Set<Integer> said, long[] sum) {
        if (said.contains(c)) {
            long rest = 1;
            for (int i = 2; i <= all.claims.size() - said.size(); i++) {
                rest *= i;
            }
            sum[0] += rest * ((endStands(said) ? 1 : 0) - (endStands(without(said, c)) ? 1 : 0));
            sum[1] += rest;
            return;
        }
        for (int d = 0; d < all.claims.size(); d++) {
            if (!said.contains(d)) {
                orders(c, with(said, d), sum);
            }
        }
    }

    // ---- which law it was

    long see(int set, boolean is) {
        if (badSet(set)) {
            return BAD;
        }
        if (all.seen.size() == 6) {
            return FULL;
        }
        all.seen.add(new Seen(setOf(set), is));
        return all.seen.size();
    }

    long forget(int n) {
        int had = all.seen.size();
        if (n < 0 || n > had) {
            return BAD;
        }
        all.seen = new ArrayList<>(all.seen.subList(0, n));
        return had;
    }

    long fits(int what) {
        if (what < 0 || what > 3) {
            return BAD;
        }
        if (all.claims.isEmpty()) {
            return STATE;
        }
        Claim end = all.claims.get(all.end);
        Set<Integer> was = end.falls;
        List<Set<Integer>> fit = new ArrayList<>();
        for (int set = 0; set < 1 << all.end; set++) {
            end.falls = setOf(set);
            if (Collections.disjoint(end.falls, end.leans)
                    && all.seen.stream().allMatch(s -> endStands(s.set()) == s.stood())) {
                fit.add(end.falls);
            }
        }
        end.falls = was;
        if (what == 0 || fit.isEmpty()) {
            return what == 0 ? fit.size() : NONE;
        }
        Set<Integer> common = new TreeSet<>(fit.get(0));
        Set<Integer> left = setOf((1 << all.end) - 1);
        left.removeAll(end.leans);
        for (Set<Integer> f : fit) {
            common.retainAll(f);
            left.removeAll(f);
        }
        return what == 1 ? bits(fit.get(0)) : bits(what == 2 ? common : left);
    }

    long drift(int seed, int n, int what) {
        if (n < 1 || n > 60 || what < 0 || what > 1) {
            return BAD;
        }
        if (all.claims.isEmpty()) {
            return STATE;
        }
        Set<Integer> said = new TreeSet<>(all.said);
        BigInteger next = BigInteger.valueOf(seed);
        int often = 0;
        for (int i = 0; i < n; i++) {
            next = next.multiply(BigInteger.valueOf(1103515245)).add(BigInteger.valueOf(12345))
                    .mod(BigInteger.ONE.shiftLeft(32));
            int c = next.shiftRight(16).mod(BigInteger.valueOf(32768)).intValueExact() % all.claims.size();
            if (!said.remove(c)) {
                said.add(c);
            }
            often += endStands(said) ? 1 : 0;
        }
        return what == 0 ? often : bits(standing(said));
    }

    // ---- images, sheets

    long keep(int k) {
        if (k < 0 || k > 1) {
            return BAD;
        }
        boolean was = images[k] != null;
        images[k] = all.copy();
        return was ? 1 : 0;
    }

    long back(int k) {
        if (k < 0 || k > 1) {
            return BAD;
        }
        if (images[k] == null) {
            return STATE;
        }
        all = images[k].copy();
        return all.day;
    }

    long sheet(int k, int lane, int n) {
        if (k < 0 || k > 3 || lane < 0 || lane > 2 || n > 40) {
            return BAD;
        }
        try {
            sheets[k] = lane == 0 ? new byte[n] : lane == 1 ? new short[n] : (Object) new int[n];
            return 1;
        } catch (NegativeArraySizeException e) {
            return -14;
        }
    }

    long lay(int k, int i, int v) {
        if (k < 0 || k > 3) {
            return BAD;
        }
        try {
            if (sheets[k] instanceof byte[] row) {
                row[i] = (byte) v;
            } else if (sheets[k] instanceof short[] row) {
                row[i] = (short) v;
            } else {
                ((int[]) sheets[k])[i] = v;
            }
            return 1;
        } catch (NullPointerException e) {
            return -11;
        } catch (ArrayIndexOutOfBoundsException e) {
            return -12;
        }
    }

    long read(int k, int lane, int f, int n) {
        if (k < 0 || k > 3 || lane < 0 || lane > 2 || n < 0 || n > 20) {
            return BAD;
        }
        Set<Integer> before = new TreeSet<>(all.said);
        int came = 0;
        int found = 0;
        try {
            for (int i = 0; i < n; i++) {
                if (say(cell(sheets[k], lane, f + i)) < 0) {
                    all.said = before;
                    return -20 - i;
                }
                came++;
            }
        } catch (NullPointerException e) {
            found = 1;
        } catch (ArrayIndexOutOfBoundsException e) {
            found = 2;
        } catch (ClassCastException e) {
            found = 3;
        }
        torn = found;
        return came;
    }

    private static int cell(Object sheet, int lane, int i) {
        return lane == 0 ? ((byte[]) sheet)[i] : lane == 1 ? ((short[]) sheet)[i] : ((int[]) sheet)[i];
    }

    long torn() {
        return torn;
    }

    long count(int what) {
        return switch (what) {
            case 0 -> all.said.size();
            case 1 -> standing(all.said).size();
            case 2 -> all.seen.size();
            case 3 -> (images[0] == null ? 0 : 1) + (images[1] == null ? 0 : 1);
            case 4 -> tape.length();
            case 5 -> sheets[0] == null ? NONE : java.lang.reflect.Array.getLength(sheets[0]);
            default -> BAD;
        };
    }

    // ---- sets

    private boolean none(int c) {
        return c < 0 || c >= all.claims.size();
    }

    private boolean badSet(int set) {
        return set < 0 || set >> all.claims.size() != 0;
    }

    private static Set<Integer> setOf(int bits) {
        Set<Integer> set = new TreeSet<>();
        for (int c = 0; c < 10; c++) {
            if ((bits >> c & 1) == 1) {
                set.add(c);
            }
        }
        return set;
    }

    private static long bits(Set<Integer> set) {
        long bits = 0;
        for (int c : set) {
            bits += 1L << c;
        }
        return bits;
    }

    private static Set<Integer> with(Set<Integer> set, int c) {
        Set<Integer> more = new TreeSet<>(set);
        more.add(c);
        return more;
    }

    private static Set<Integer> without(Set<Integer> set, int c) {
        Set<Integer> less = new TreeSet<>(set);
        less.remove(c);
        return less;
    }

    private boolean one(Set<Integer> set, int c) {
        if (!set.contains(c)) {
            return false;
        }
        for (int on : all.claims.get(c).leans) {
            if (!one(set, on)) {
                return false;
            }
        }
        for (int by : all.claims.get(c).falls) {
            if (one(set, by)) {
                return false;
            }
        }
        return true;
    }

    private Set<Integer> standing(Set<Integer> set) {
        Set<Integer> standing = new TreeSet<>();
        for (int c : set) {
            if (one(set, c)) {
                standing.add(c);
            }
        }
        return standing;
    }

    private boolean endStands(Set<Integer> set) {
        return !all.claims.isEmpty() && one(set, all.end);
    }
}
