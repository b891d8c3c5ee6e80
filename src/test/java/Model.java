import java.util.ArrayList;
import java.util.Arrays;
import java.util.HashSet;
import java.util.List;
import java.util.Set;
import java.util.regex.Matcher;
import java.util.regex.Pattern;

/**
 * The document again, told in another way than the program tells it: states that never change,
 * sets instead of tables, the text by an automaton. ModelTest compares the two, call by call.
 */
final class Model {
    private static final Set<String> NAMES_AT = Set.of("mill", "fisher", "washing", "kite", "captain", "widow");
    private static final List<String> NAMES = List.of("mill", "fisher", "washing", "kite", "captain", "widow");
    private static final int[][] BLOWN = {{-1, 0}, {-1, 1}, {0, 1}, {1, 1}, {1, 0}, {1, -1}, {0, -1}, {-1, -1}};
    private static final String[] LINES = {"0", "10", "20", "30", "410", "520"};

    record One(int kind, int cell, int facing, int sum) {
    }

    record State(int day, List<Integer> rota, Set<Integer> sick, int force, List<One> ones) {
    }

    private record Spot(int cell, int bribes) {
    }

    private record Token(int place, String text) {
    }

    private State state = new State(0, List.of(0, 1, 2, 3, 4, 5, 8), Set.of(), 4, List.of());
    private State kept = null;
    private final List<Integer> tape = new ArrayList<>();
    private final long[][] sheets = new long[4][];
    private final int[] bits = new int[4];
    private final int[] told = new int[7];

    private int finding(int which) {
        told[Due.BEYOND - which]++;
        return which;
    }

    private int beyond() {
        return finding(Due.BEYOND);
    }

    private static boolean in(int v, int least, int most) {
        return least <= v && v <= most;
    }

    private boolean is(int thing) {
        return in(thing, 0, state.ones.size() - 1);
    }

    // ---- section 1

    private static int wind(State s, int day) {
        int due = s.rota.get(day % 7);
        if (due == 8 || s.sick.size() == 8) {
            return 8;
        }
        while (s.sick.contains(due)) {
            due = due == 7 ? 0 : due + 1;
        }
        return due;
    }

    private static int off(One one, int wind) {
        if (wind == 8) {
            return 4;
        }
        int apart = Math.abs(wind - one.facing);
        return apart > 4 ? 8 - apart : apart;
    }

    private static int earns(int kind, One one, int day, int wind, int force) {
        int f = wind == 8 ? 0 : force;
        if (kind == 0) {
            return f < off(one, wind) ? 0 : f - off(one, wind);
        }
        if (kind == 1) {
            return earns(0, one, day, wind, force) + 1;
        }
        if (kind == 2) {
            return f == 0 || f > 5 ? 0 : 3;
        }
        if (kind == 3) {
            return earns(0, one, day, wind, force) * (off(one, wind) == 0 ? 2 : 1);
        }
        if (kind == 4) {
            return goes(4, one, wind, force) ? earns(1, one, day, wind, force) : 0;
        }
        return earns(2, one, day, wind, force) + (day % 7 == 1 ? 5 : 0);
    }

    private static boolean goes(int kind, One one, int wind, int force) {
        if (wind == 8 || kind == 0) {
            return false;
        }
        if (kind == 1) {
            return force > 1;
        }
        if (kind == 2) {
            return force > 8;
        }
        if (kind == 4) {
            return goes(1, one, wind, force) && off(one, wind) < 2;
        }
        return goes(kind == 5 ? 2 : 0, one, wind, force);
    }

    private static int behind(int cell, int wind) {
        int row = cell / 6 + BLOWN[wind][0];
        int column = cell % 6 + BLOWN[wind][1];
        return in(row, 0, 5) && in(column, 0, 5) ? 6 * row + column : -1;
    }

    private static One after(One one, int day, int wind, int force) {
        int sum = Math.min(99999, one.sum + earns(one.kind, one, day, wind, force));
        int cell = one.cell;
        if (goes(one.kind, one, wind, force) && behind(cell, wind) >= 0) {
            cell = behind(cell, wind);
        }
        return new One(one.kind, cell, one.facing, sum);
    }

    private static State after(State s, int wind) {
        List<One> ones = new ArrayList<>();
        for (One one : s.ones) {
            ones.add(after(one, s.day, wind, s.force));
        }
        return new State(s.day + 1, s.rota, s.sick, s.force, ones);
    }

    private static State afterDays(State s, int n) {
        return n == 0 ? s : afterDays(after(s, wind(s, s.day)), n - 1);
    }

    private static int sums(State s) {
        return s.ones.stream().mapToInt(One::sum).sum();
    }

    private static int gain(State s, int n) {
        return sums(afterDays(s, n)) - sums(s);
    }

    private static <T> List<T> with(List<T> list, int i, T v) {
        List<T> other = new ArrayList<>(list);
        other.set(i, v);
        return other;
    }

    private static State withRota(State s, int day, int w) {
        return new State(s.day, with(s.rota, day, w), s.sick, s.force, s.ones);
    }

    private static State withSick(State s, int w, boolean ill) {
        Set<Integer> sick = new HashSet<>(s.sick);
        if (ill) {
            sick.add(w);
        } else {
            sick.remove(w);
        }
        return new State(s.day, s.rota, sick, s.force, s.ones);
    }

    private static State withForce(State s, int force) {
        return new State(s.day, s.rota, s.sick, force, s.ones);
    }

    private static State withOne(State s, int thing, One one) {
        return new State(s.day, s.rota, s.sick, s.force, with(s.ones, thing, one));
    }

    private static State withNew(State s, One one) {
        List<One> ones = new ArrayList<>(s.ones);
        ones.add(one);
        return new State(s.day, s.rota, s.sick, s.force, ones);
    }

    // ---- winds

    int rota(int day, int w) {
        if (!in(day, 0, 6) || !in(w, 0, 8)) {
            return beyond();
        }
        int was = state.rota.get(day);
        state = withRota(state, day, w);
        return was;
    }

    int rotaOf(int day) {
        return in(day, 0, 6) ? state.rota.get(day) : beyond();
    }

    int sick(int w, int v) {
        if (!in(w, 0, 7) || !in(v, 0, 1)) {
            return beyond();
        }
        int was = state.sick.contains(w) ? 1 : 0;
        state = withSick(state, w, v == 1);
        return was;
    }

    int force(int v) {
        if (!in(v, 0, 9)) {
            return beyond();
        }
        int was = state.force;
        state = withForce(state, v);
        return was;
    }

    int blows(int day) {
        return in(day, 0, 9999) ? wind(state, day) : beyond();
    }

    int lee(int cell, int w) {
        if (!in(cell, 0, 35) || !in(w, 0, 7)) {
            return beyond();
        }
        return behind(cell, w) < 0 ? finding(Due.NONE) : behind(cell, w);
    }

    // ---- things

    int thing(int kind, int cell) {
        if (!in(kind, 0, 5) || !in(cell, 0, 35)) {
            return beyond();
        }
        if (state.ones.size() == 8) {
            return finding(Due.FULL);
        }
        state = withNew(state, new One(kind, cell, 0, 0));
        return state.ones.size() - 1;
    }

    int of(int thing, int what) {
        if (!is(thing) || !in(what, 0, 5)) {
            return beyond();
        }
        One one = state.ones.get(thing);
        int wind = wind(state, state.day);
        int[] all = {one.kind, one.cell, one.facing, one.sum,
            earns(one.kind, one, state.day, wind, state.force), goes(one.kind, one, wind, state.force) ? 1 : 0};
        return all[what];
    }

    int set(int thing, int what, int v) {
        if (!is(thing) || !in(what, 1, 3) || !in(v, 0, new int[] {0, 35, 7, 99999}[what])) {
            return beyond();
        }
        One one = state.ones.get(thing);
        int was = of(thing, what);
        state = withOne(state, thing, new One(one.kind, what == 1 ? v : one.cell,
            what == 2 ? v : one.facing, what == 3 ? v : one.sum));
        return was;
    }

    int turn(int thing, int kind) {
        if (!is(thing) || !in(kind, 0, 5)) {
            return beyond();
        }
        One one = state.ones.get(thing);
        state = withOne(state, thing, new One(kind, one.cell, one.facing, one.sum));
        return one.kind;
    }

    int as(int thing, int kind) {
        if (!is(thing) || !in(kind, 0, 5)) {
            return beyond();
        }
        One one = state.ones.get(thing);
        return LINES[one.kind].contains("" + kind) ? one.sum : finding(Due.KIND);
    }

    // ---- days

    int days(int n) {
        if (!in(n, 1, 60)) {
            return beyond();
        }
        if (state.day + n > 9999) {
            return finding(Due.STATE);
        }
        state = afterDays(state, n);
        return sums(state);
    }

    int bribe(int w) {
        if (!in(w, 0, 7)) {
            return beyond();
        }
        if (state.day == 9999) {
            return finding(Due.STATE);
        }
        state = after(state, w);
        return sums(state);
    }

    int now(int what) {
        int wind = wind(state, state.day);
        int set = 0;
        int all = 0;
        switch (what) {
            case 0: return state.day;
            case 1: return wind;
            case 2: return state.force;
            case 3:
                for (int w : state.sick) {
                    set += 1 << w;
                }
                return set;
            case 4: return sums(state);
            case 5:
                for (int i = 0; i < state.ones.size(); i++) {
                    all += of(i, 4);
                }
                return all;
            case 6:
                for (int i = 0; i < state.ones.size(); i++) {
                    set += of(i, 5) << i;
                }
                return set;
            default: return beyond();
        }
    }

    int on(int thing, int n, int what) {
        if (!is(thing) || !in(n, 0, 60) || !in(what, 0, 1)) {
            return beyond();
        }
        One one = afterDays(state, n).ones.get(thing);
        return what == 0 ? one.cell : one.sum;
    }

    int comes(int thing, int cell) {
        if (!is(thing) || !in(cell, 0, 35)) {
            return beyond();
        }
        for (int n = 0; n <= 60; n++) {
            if (on(thing, n, 0) == cell) {
                return n;
            }
        }
        return finding(Due.NONE);
    }

    int meet(int thing, int other) {
        if (!is(thing) || !is(other) || thing == other) {
            return beyond();
        }
        for (int n = 0; n <= 60; n++) {
            if (on(thing, n, 0) == on(other, n, 0)) {
                return n;
            }
        }
        return finding(Due.NONE);
    }

    // ---- what is best

    /** Cells with numbers of bribes at which a thing can be on just n days. */
    private Set<Spot> spots(int thing, int n) {
        One one = state.ones.get(thing);
        Set<Spot> spots = Set.of(new Spot(one.cell, 0));
        for (int d = 0; d < n; d++) {
            int day = state.day + d;
            Set<Spot> next = new HashSet<>();
            for (Spot spot : spots) {
                One there = new One(one.kind, spot.cell, one.facing, 0);
                next.add(new Spot(after(there, day, wind(state, day), state.force).cell, spot.bribes));
                for (int w = 0; w < 8; w++) {
                    next.add(new Spot(after(there, day, w, state.force).cell, spot.bribes + 1));
                }
            }
            spots = next;
        }
        return spots;
    }

    int bribes(int thing, int cell, int n) {
        if (!is(thing) || !in(cell, 0, 35) || !in(n, 0, 30)) {
            return beyond();
        }
        int least = 99;
        for (int d = 0; d <= n; d++) {
            for (Spot spot : spots(thing, d)) {
                least = spot.cell == cell ? Math.min(least, spot.bribes) : least;
            }
        }
        return least == 99 ? finding(Due.NONE) : least;
    }

    int soonest(int thing, int cell, int k) {
        if (!is(thing) || !in(cell, 0, 35) || !in(k, 0, 30)) {
            return beyond();
        }
        for (int d = 0; d <= 30; d++) {
            for (Spot spot : spots(thing, d)) {
                if (spot.cell == cell && spot.bribes <= k) {
                    return d;
                }
            }
        }
        return finding(Due.NONE);
    }

    long reach(int thing, int n) {
        if (!is(thing) || !in(n, 0, 30)) {
            return beyond();
        }
        long set = 0;
        for (Spot spot : spots(thing, n)) {
            set |= 1L << spot.cell;
        }
        return set;
    }

    int swap(int n) {
        if (!in(n, 1, 30)) {
            return beyond();
        }
        int best = -1;
        int most = gain(state, n);
        for (int code = 0; code < 67; code++) {
            int a = code / 10;
            int b = code % 10;
            if (a < b && b < 7) {
                State other = withRota(withRota(state, a, state.rota.get(b)), b, state.rota.get(a));
                if (gain(other, n) > most) {
                    best = code;
                    most = gain(other, n);
                }
            }
        }
        return best < 0 ? finding(Due.NONE) : best;
    }

    int missed(int n) {
        if (!in(n, 1, 30)) {
            return beyond();
        }
        int best = -1;
        for (int w = 7; w >= 0; w--) {
            if (!state.sick.contains(w)
                && (best < 0 || gain(withSick(state, w, true), n) <= gain(withSick(state, best, true), n))) {
                best = w;
            }
        }
        return best < 0 ? finding(Due.NONE) : best;
    }

    int enough(int n, int v) {
        if (!in(n, 1, 30) || !in(v, 0, 99999)) {
            return beyond();
        }
        for (int f = 0; f < 10; f++) {
            if (gain(withForce(state, f), n) >= v) {
                return f;
            }
        }
        return finding(Due.NONE);
    }

    private static int firstMost(int[] gains) {
        int best = gains.length - 1;
        for (int i = best; i >= 0; i--) {
            best = gains[i] >= gains[best] ? i : best;
        }
        return best;
    }

    int kind(int thing, int n) {
        if (!is(thing) || !in(n, 1, 30)) {
            return beyond();
        }
        One one = state.ones.get(thing);
        int[] gains = new int[6];
        for (int k = 0; k < 6; k++) {
            gains[k] = gain(withOne(state, thing, new One(k, one.cell, one.facing, one.sum)), n);
        }
        return firstMost(gains);
    }

    int facing(int thing, int n) {
        if (!is(thing) || !in(n, 1, 30)) {
            return beyond();
        }
        One one = state.ones.get(thing);
        int[] gains = new int[8];
        for (int w = 0; w < 8; w++) {
            gains[w] = gain(withOne(state, thing, new One(one.kind, one.cell, w, one.sum)), n);
        }
        return firstMost(gains);
    }

    int best(int day, int n) {
        if (!in(day, 0, 6) || !in(n, 1, 30)) {
            return beyond();
        }
        int[] gains = new int[9];
        for (int w = 0; w < 9; w++) {
            gains[w] = gain(withRota(state, day, w), n);
        }
        return firstMost(gains);
    }

    // ---- the text

    int feed(int bytes, int n) {
        if (!in(n, 1, 4)) {
            return beyond();
        }
        if (tape.size() + n > 120) {
            return finding(Due.FULL);
        }
        int[] four = {bytes >>> 24, bytes >>> 16 & 255, bytes >>> 8 & 255, bytes & 255};
        for (int i = 4 - n; i < 4; i++) {
            tape.add(four[i]);
        }
        return tape.size();
    }

    int wipe() {
        int had = tape.size();
        tape.clear();
        return had;
    }

    private List<Token> tokens() {
        StringBuilder text = new StringBuilder();
        for (int b : tape) {
            text.append((char) b);
        }
        List<Token> tokens = new ArrayList<>();
        Matcher found = Pattern.compile("[a-z]+|[0-9]+|[^ ]", Pattern.DOTALL).matcher(text);
        while (found.find()) {
            tokens.add(new Token(found.start(), found.group()));
        }
        return tokens;
    }

    private static int number(String text, int most) {
        if (!text.matches("[0-9]+")) {
            return -1;
        }
        String plain = text.replaceFirst("^0+(?=.)", "");
        return plain.length() > 3 || Integer.parseInt(plain) > most ? -1 : Integer.parseInt(plain);
    }

    int sea() {
        List<Token> tokens = tokens();
        int bytes = wipe();
        State s = state;
        String at = "item";
        int items = 0;
        int kind = 0;
        int days = 0;
        for (Token token : tokens) {
            String text = token.text;
            int fault = -1 - token.place;
            boolean mayEnd = at.equals("cell known") || at.equals("day") || at.equals("item known");
            if (text.equals(";") && mayEnd) {
                at = "item";
            } else if (at.equals("item") && NAMES_AT.contains(text) && s.ones.size() < 8) {
                kind = NAMES.indexOf(text);
                items++;
                at = "at";
            } else if (at.equals("item") && Set.of("rota", "sick", "well", "force").contains(text)) {
                items++;
                days = 0;
                at = text.equals("rota") ? "first day" : text;
            } else if (at.equals("at") && text.equals("at")) {
                at = "cell";
            } else if (at.equals("cell") && number(text, 35) >= 0) {
                s = withNew(s, new One(kind, number(text, 35), 0, 0));
                at = "cell known";
            } else if (at.equals("cell known") && text.equals("facing")) {
                at = "facing";
            } else if (at.equals("facing") && number(text, 7) >= 0) {
                One one = s.ones.get(s.ones.size() - 1);
                s = withOne(s, s.ones.size() - 1, new One(one.kind, one.cell, number(text, 7), 0));
                at = "item known";
            } else if ((at.equals("first day") || at.equals("day")) && days < 7 && number(text, 8) >= 0) {
                s = withRota(s, days, number(text, 8));
                days++;
                at = "day";
            } else if ((at.equals("sick") || at.equals("well")) && number(text, 7) >= 0) {
                s = withSick(s, number(text, 7), at.equals("sick"));
                at = "item known";
            } else if (at.equals("force") && number(text, 9) >= 0) {
                s = withForce(s, number(text, 9));
                at = "item known";
            } else {
                return fault;
            }
        }
        if (!(at.equals("cell known") || at.equals("day") || at.equals("item known"))) {
            return -1 - bytes;
        }
        state = s;
        return items;
    }

    // ---- sheets

    private static long low(long v, int bits) {
        return v << (64 - bits) >> (64 - bits);
    }

    int sheet(int s, int newBits, int n) {
        if (!in(s, 0, 3) || !List.of(0, 8, 16, 64).contains(newBits)) {
            return beyond();
        }
        if (n < 0) {
            return finding(Due.SIZE);
        }
        if (n > 40) {
            return beyond();
        }
        sheets[s] = newBits == 0 ? null : new long[n];
        bits[s] = newBits;
        return newBits == 0 ? 0 : n;
    }

    long write(int s, int i, long v) {
        if (!in(s, 0, 3)) {
            return beyond();
        }
        if (sheets[s] == null) {
            return finding(Due.MISSING);
        }
        if (!in(i, 0, sheets[s].length - 1)) {
            return beyond();
        }
        long was = sheets[s][i];
        sheets[s][i] = low(v, bits[s]);
        return was;
    }

    int copy(int s, int from, int t, int to, int n) {
        if (!in(s, 0, 3) || !in(t, 0, 3)) {
            return beyond();
        }
        if (sheets[s] == null || sheets[t] == null) {
            return finding(Due.MISSING);
        }
        if (bits[s] != bits[t]) {
            return finding(Due.KIND);
        }
        if (from < 0 || to < 0 || n < 0 || (long) from + n > sheets[s].length || (long) to + n > sheets[t].length) {
            return beyond();
        }
        long[] were = Arrays.copyOf(sheets[s], sheets[s].length);
        for (int i = 0; i < n; i++) {
            sheets[t][to + i] = were[from + i];
        }
        return n;
    }

    int lays(int s) {
        if (!in(s, 0, 3)) {
            return beyond();
        }
        if (sheets[s] == null) {
            return finding(Due.MISSING);
        }
        int came = 0;
        for (int i = 0; i < sheets[s].length; i++) {
            if (i < 7 && sheets[s][i] >= 0 && sheets[s][i] <= 8) {
                state = withRota(state, i, (int) sheets[s][i]);
                came++;
            }
        }
        return came;
    }

    int book(int s, int thing) {
        if (!in(s, 0, 3)) {
            return beyond();
        }
        if (sheets[s] == null) {
            return finding(Due.MISSING);
        }
        if (!is(thing)) {
            return beyond();
        }
        for (int i = 0; i < sheets[s].length; i++) {
            sheets[s][i] = low(on(thing, i, 1), bits[s]);
        }
        return sheets[s].length;
    }

    int read(int s, int thing) {
        if (!in(s, 0, 3)) {
            return beyond();
        }
        if (sheets[s] == null) {
            return finding(Due.MISSING);
        }
        if (!is(thing)) {
            return beyond();
        }
        One one = state.ones.get(thing);
        int pairs = 0;
        for (int pair = 0; pair < 48; pair++) {
            State other = withOne(state, thing, new One(pair / 8, one.cell, pair % 8, one.sum));
            boolean fits = true;
            for (int i = 0; i < sheets[s].length && fits; i++) {
                fits = other.ones.get(thing).sum == sheets[s][i];
                other = after(other, wind(other, other.day));
            }
            pairs += fits ? 1 : 0;
        }
        return pairs;
    }

    // ---- images

    int image() {
        kept = state;
        return 1;
    }

    int undo() {
        if (kept == null) {
            return finding(Due.NONE);
        }
        state = kept;
        return state.ones.size();
    }

    int tear() {
        int was = kept == null ? 0 : 1;
        kept = null;
        return was;
    }

    int count(int what) {
        switch (what) {
            case 0: return state.ones.size();
            case 1: return tape.size();
            case 2: return state.sick.size();
            case 3: return (int) state.rota.stream().filter(w -> w == 8).count();
            default: return beyond();
        }
    }

    int status(int which) {
        if (!in(which, -1, 6)) {
            return beyond();
        }
        return which < 0 ? Arrays.stream(told).sum() : told[which];
    }
}
