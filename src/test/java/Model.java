import java.math.BigInteger;
import java.util.ArrayDeque;
import java.util.ArrayList;
import java.util.Arrays;
import java.util.Deque;
import java.util.HashMap;
import java.util.List;
import java.util.Map;

/**
 * The document once more, word for word and without any thrift, to compare SpanSpotter with.
 * Plans are lists of towers, rooms and pulls are fractions; nothing is shared with the program.
 */
final class Model {
    static final int NONE = -1, BAD = -2, NO = -3, FULL = -4;
    private static final BigInteger MILLION = BigInteger.valueOf(1000000);
    private static final int[] LEAST = {1, 0, 0, 1, 1, 0};
    private static final int[] MOST = {60, 20, 20, 200, 8, 9};

    record Tower(int place, int kind) {
    }

    record Fraction(BigInteger up, BigInteger low) {
        static Fraction of(long up, long low) {
            BigInteger u = BigInteger.valueOf(up);
            BigInteger l = BigInteger.valueOf(low);
            BigInteger g = u.gcd(l);
            return new Fraction(u.divide(g), l.divide(g));
        }

        Fraction plus(Fraction o) {
            BigInteger u = up.multiply(o.low).add(o.up.multiply(low));
            BigInteger l = low.multiply(o.low);
            BigInteger g = u.gcd(l);
            return new Fraction(u.divide(g), l.divide(g));
        }

        Fraction minus(Fraction o) {
            return plus(new Fraction(o.up.negate(), o.low));
        }

        boolean isBelow(Fraction o) {
            return up.multiply(o.low).compareTo(o.up.multiply(low)) < 0;
        }
    }

    static final class State {
        int n = 10;
        int[] ground = new int[21];
        int[] clearance = new int[21];
        int[] price = new int[21];
        int[] barred = new int[21];
        int[] kind = new int[21];
        int[] setting = {12, 4, 1, 10, 4, 0};

        State() {
            Arrays.fill(clearance, 5);
            Arrays.fill(kind, NONE);
        }

        State copy() {
            State s = new State();
            s.n = n;
            s.ground = ground.clone();
            s.clearance = clearance.clone();
            s.price = price.clone();
            s.barred = barred.clone();
            s.kind = kind.clone();
            s.setting = setting.clone();
            return s;
        }

        int[] row(int what) {
            return what == 0 ? ground : what == 1 ? clearance : what == 2 ? price
                    : what == 3 ? barred : kind;
        }

        Fraction sag() {
            return Fraction.of(setting[2], setting[3]);
        }

        int height(int kind) {
            return setting[0] + (kind == 1 || kind == 4 ? setting[1] : 0)
                    + (kind == 2 || kind == 5 ? 2 * setting[1] : 0);
        }

        int cost(Tower t) {
            return (t.kind >= 3 ? 2 : 1) * (4 + height(t.kind)) + price[t.place];
        }

        int top(Tower t) {
            return ground[t.place] + height(t.kind);
        }

        Fraction room(Tower a, Tower b, int x) {
            int length = b.place - a.place;
            Fraction straight = Fraction.of(top(a), 1)
                    .plus(Fraction.of((long) (top(b) - top(a)) * (x - a.place), length));
            Fraction sagging = Fraction.of(
                    (long) setting[2] * (x - a.place) * (b.place - x), setting[3]);
            return straight.minus(sagging).minus(Fraction.of(ground[x] + clearance[x], 1));
        }

        Fraction pull(Tower a, Tower b, Tower c) {
            return Fraction.of((long) setting[2] * (c.place - a.place), setting[3])
                    .plus(Fraction.of(top(b) - top(a), b.place - a.place))
                    .plus(Fraction.of(top(b) - top(c), c.place - b.place));
        }

        boolean hasLowRoom(Tower a, Tower b) {
            for (int x = a.place + 1; x < b.place; x++) {
                if (room(a, b, x).up.signum() < 0) {
                    return true;
                }
            }
            return false;
        }

        boolean isPulledTooLittle(Tower a, Tower b, Tower c) {
            return pull(a, b, c).isBelow(Fraction.of(setting[5], 1));
        }

        List<Tower> plan() {
            List<Tower> plan = new ArrayList<>();
            for (int x = 0; x <= n; x++) {
                if (kind[x] != NONE) {
                    plan.add(new Tower(x, kind[x]));
                }
            }
            return plan;
        }

        int cost(List<Tower> plan) {
            int sum = 0;
            for (Tower t : plan) {
                sum += cost(t);
            }
            return sum;
        }

        List<int[]> flaws(List<Tower> plan) {
            List<int[]> flaws = new ArrayList<>();
            for (int x = 0; x <= n; x++) {
                int i = indexOf(plan, x);
                Tower t = i < 0 ? null : plan.get(i);
                if ((x == 0 || x == n) && (t == null || t.kind < 3)) {
                    flaws.add(new int[] {x, 1});
                }
                if (t == null) {
                    continue;
                }
                Tower before = i > 0 ? plan.get(i - 1) : null;
                Tower after = i + 1 < plan.size() ? plan.get(i + 1) : null;
                if (barred[x] == 1) {
                    flaws.add(new int[] {x, 2});
                }
                if (t.kind < 3 && x != 0 && x != n && before != null && after != null
                        && isPulledTooLittle(before, t, after)) {
                    flaws.add(new int[] {x, 3});
                }
                if (after != null && after.place - x > setting[4]) {
                    flaws.add(new int[] {x, 4});
                }
                if (after != null && hasLowRoom(t, after)) {
                    flaws.add(new int[] {x, 5});
                }
            }
            return flaws;
        }

        private static int indexOf(List<Tower> plan, int x) {
            for (int i = 0; i < plan.size(); i++) {
                if (plan.get(i).place == x) {
                    return i;
                }
            }
            return -1;
        }
    }

    /** What is known of a set of plans (or of their ends): the best one, and numbers. */
    static final class Result {
        int cost = Integer.MAX_VALUE;
        List<Tower> best;
        BigInteger same = BigInteger.ZERO;
        BigInteger every = BigInteger.ZERO;

        void add(int otherCost, List<Tower> other, BigInteger otherSame, BigInteger otherEvery) {
            every = every.add(otherEvery);
            if (otherCost < cost) {
                cost = otherCost;
                best = other;
                same = otherSame;
            } else if (otherCost == cost) {
                same = same.add(otherSame);
                if (isBefore(other, best)) {
                    best = other;
                }
            }
        }

        private static boolean isBefore(List<Tower> p, List<Tower> q) {
            if (p.size() != q.size()) {
                return p.size() < q.size();
            }
            for (int i = 0; i < p.size(); i++) {
                Tower a = p.get(i);
                Tower b = q.get(i);
                if (a.place != b.place) {
                    return a.place < b.place;
                }
                if (a.kind != b.kind) {
                    return a.kind < b.kind;
                }
            }
            return false;
        }
    }

    /** Tries every plan at all: only for short lines. */
    static Result byTrial(State s, int must) {
        Result result = new Result();
        int[] choice = new int[s.n + 1];
        Arrays.fill(choice, NONE);
        while (true) {
            List<Tower> plan = new ArrayList<>();
            for (int x = 0; x <= s.n; x++) {
                if (choice[x] != NONE) {
                    plan.add(new Tower(x, choice[x]));
                }
            }
            if (choice[must] != NONE && s.flaws(plan).isEmpty()) {
                result.add(s.cost(plan), plan, BigInteger.ONE, BigInteger.ONE);
            }
            int x = 0;
            while (x <= s.n && choice[x] == 5) {
                choice[x] = NONE;
                x++;
            }
            if (x > s.n) {
                return result;
            }
            choice[x]++;
        }
    }

    /** Builds plans tower by tower, remembering what may follow two towers. */
    static Result bySteps(State s, int must) {
        Result result = new Result();
        Map<List<Tower>, Result> known = new HashMap<>();
        for (int kind = 3; kind <= 5; kind++) {
            Tower first = new Tower(0, kind);
            addStep(s, must, result, first, ends(s, must, null, first, known));
        }
        return result;
    }

    private static Result ends(State s, int must, Tower a, Tower b, Map<List<Tower>, Result> known) {
        List<Tower> key = a == null ? List.of(b) : List.of(a, b);
        Result found = known.get(key);
        if (found != null) {
            return found;
        }
        Result result = new Result();
        if (b.place == s.n) {
            result.add(0, List.of(), BigInteger.ONE, BigInteger.ONE);
        }
        for (int x = b.place + 1; x <= s.n && x - b.place <= s.setting[4]; x++) {
            boolean jumps = b.place < must && must < x;
            for (int kind = x == s.n ? 3 : 0; kind <= 5 && !jumps && s.barred[x] == 0; kind++) {
                Tower c = new Tower(x, kind);
                boolean lifted = a != null && b.kind < 3 && s.isPulledTooLittle(a, b, c);
                if (!lifted && !s.hasLowRoom(b, c)) {
                    addStep(s, must, result, c, ends(s, must, b, c, known));
                }
            }
        }
        known.put(key, result);
        return result;
    }

    private static void addStep(State s, int must, Result sum, Tower t, Result rest) {
        if (rest.best != null) {
            List<Tower> plan = new ArrayList<>();
            plan.add(t);
            plan.addAll(rest.best);
            sum.add(s.cost(t) + rest.cost, plan, rest.same, rest.every);
        }
    }

    State now = new State();
    private final Deque<State> saved = new ArrayDeque<>();
    private final StringBuilder text = new StringBuilder();
    private final int[] errors = new int[3];
    private Fraction told = Fraction.of(0, 1);
    private Result cheapest;
    private final Map<Integer, Integer> through = new HashMap<>();

    private int error(int code) {
        errors[-2 - code]++;
        return code;
    }

    private void save() {
        saved.addLast(now.copy());
        if (saved.size() > 6) {
            saved.removeFirst();
        }
    }

    private void forget() {
        cheapest = null;
        through.clear();
    }

    private Result best() {
        if (cheapest == null) {
            cheapest = bySteps(now, 0);
        }
        return cheapest;
    }

    private boolean isPlace(int x) {
        return x >= 0 && x <= now.n;
    }

    int type(int c) {
        if (c < 0 || c > 127) {
            return error(BAD);
        }
        if (text.length() == 200) {
            return error(FULL);
        }
        text.append((char) c);
        return text.length();
    }

    int clear() {
        int had = text.length();
        text.setLength(0);
        return had;
    }

    int reads() {
        ModelText reader = new ModelText(text.toString());
        int answer = reader.read();
        if (answer > 0) {
            save();
            now = reader.state;
            forget();
        }
        return answer;
    }

    int place(int x, int what) {
        return !isPlace(x) || what < 0 || what > 4 ? error(BAD) : now.row(what)[x];
    }

    int lays(int x, int what, int v) {
        if (!isPlace(x) || what < 0 || what > 3 || v < 0) {
            return error(BAD);
        }
        int most = what == 0 ? 99 : what == 1 ? 30 : what == 2 ? 9 : x == 0 || x == now.n ? 0 : 1;
        if (v > most) {
            return error(BAD);
        }
        int old = now.row(what)[x];
        if (old == v) {
            return error(NO);
        }
        save();
        now.row(what)[x] = v;
        forget();
        return old;
    }

    private static boolean isSetting(int what, int v) {
        return what >= 0 && what <= 5 && v >= LEAST[what] && v <= MOST[what];
    }

    int sets(int what, int v) {
        if (!isSetting(what, v)) {
            return error(BAD);
        }
        int old = now.setting[what];
        if (old == v) {
            return error(NO);
        }
        save();
        now.setting[what] = v;
        forget();
        return old;
    }

    int puts(int x, int kind) {
        if (!isPlace(x) || kind < 0 || kind > 5) {
            return error(BAD);
        }
        if (now.kind[x] == kind) {
            return error(NO);
        }
        save();
        now.kind[x] = kind;
        return now.plan().size();
    }

    int takes(int x) {
        if (!isPlace(x)) {
            return error(BAD);
        }
        if (now.kind[x] == NONE) {
            return error(NO);
        }
        save();
        now.kind[x] = NONE;
        return now.plan().size();
    }

    int moves(int x, int y) {
        if (!isPlace(x) || !isPlace(y)) {
            return error(BAD);
        }
        if (now.kind[x] == NONE || now.kind[y] != NONE) {
            return error(NO);
        }
        for (Tower t : now.plan()) {
            if (x < t.place && t.place < y || y < t.place && t.place < x) {
                return error(NO);
            }
        }
        save();
        now.kind[y] = now.kind[x];
        now.kind[x] = NONE;
        return now.flaws(now.plan()).size();
    }

    int flaw(int k, int what) {
        if (k < 0 || what < 0 || what > 1) {
            return error(BAD);
        }
        List<int[]> flaws = now.flaws(now.plan());
        return k >= flaws.size() ? NONE : flaws.get(k)[what];
    }

    private Tower before(int x) {
        Tower found = null;
        for (Tower t : now.plan()) {
            found = t.place < x ? t : found;
        }
        return found;
    }

    private Tower after(int x) {
        for (Tower t : now.plan()) {
            if (t.place > x) {
                return t;
            }
        }
        return null;
    }

    int room(int x) {
        if (!isPlace(x)) {
            return error(BAD);
        }
        if (now.kind[x] != NONE || before(x) == null || after(x) == null) {
            return error(NO);
        }
        told = now.room(before(x), after(x), x);
        return 1;
    }

    int nearest(int x) {
        if (!isPlace(x)) {
            return error(BAD);
        }
        if (now.kind[x] == NONE || after(x) == null || after(x).place - x == 1) {
            return error(NO);
        }
        Tower a = new Tower(x, now.kind[x]);
        int found = x + 1;
        for (int y = x + 2; y < after(x).place; y++) {
            if (now.room(a, after(x), y).isBelow(now.room(a, after(x), found))) {
                found = y;
            }
        }
        told = now.room(a, after(x), found);
        return found;
    }

    int pull(int x) {
        if (!isPlace(x)) {
            return error(BAD);
        }
        if (now.kind[x] == NONE || before(x) == null || after(x) == null) {
            return error(NO);
        }
        told = now.pull(before(x), new Tower(x, now.kind[x]), after(x));
        return 1;
    }

    int cheapest(int what) {
        if (what < 0 || what > 3) {
            return error(BAD);
        }
        Result r = best();
        if (what < 2) {
            return r.best == null ? NONE : what == 0 ? r.cost : r.best.size();
        }
        return (what == 2 ? r.same : r.every).mod(MILLION).intValue();
    }

    int spot(int k, int what) {
        if (k < 0 || what < 0 || what > 1) {
            return error(BAD);
        }
        Result r = best();
        if (r.best == null || k >= r.best.size()) {
            return NONE;
        }
        return what == 0 ? r.best.get(k).place : r.best.get(k).kind;
    }

    int through(int x) {
        if (!isPlace(x)) {
            return error(BAD);
        }
        if (!through.containsKey(x)) {
            Result r = bySteps(now, x);
            through.put(x, r.best == null ? NONE : r.cost);
        }
        return through.get(x);
    }

    int builds() {
        Result r = best();
        if (r.best == null || r.best.equals(now.plan())) {
            return error(NO);
        }
        save();
        Arrays.fill(now.kind, NONE);
        for (Tower t : r.best) {
            now.kind[t.place] = t.kind;
        }
        return r.best.size();
    }

    int otherwise(int what, int v) {
        if (!isSetting(what, v)) {
            return error(BAD);
        }
        State other = now.copy();
        other.setting[what] = v;
        Result r = bySteps(other, 0);
        return r.best == null ? NONE : r.cost;
    }

    long upper() {
        return told.up.longValueExact();
    }

    long lower() {
        return told.low.longValueExact();
    }

    int all(int what) {
        if (what < 0 || what > 12) {
            return error(BAD);
        }
        if (what >= 5 && what <= 10) {
            return now.setting[what - 5];
        }
        List<Tower> plan = now.plan();
        switch (what) {
            case 0:
                return plan.size();
            case 1:
                return now.cost(plan);
            case 2:
                return now.flaws(plan).size();
            case 3:
                return (int) plan.stream().filter(t -> t.kind < 3).count();
            case 4:
                return now.n;
            case 11:
                return Arrays.stream(now.barred, 0, now.n + 1).sum();
            default:
                return best().best == null ? NONE : now.cost(plan) - best().cost + 10000;
        }
    }

    int back() {
        if (saved.isEmpty()) {
            return error(NO);
        }
        now = saved.removeLast();
        forget();
        return saved.size();
    }

    int told(int what) {
        return what < 0 || what > 4 ? error(BAD)
                : what < 3 ? errors[what] : what == 3 ? text.length() : saved.size();
    }

    long digest() {
        List<Integer> numbers = new ArrayList<>();
        for (int what = 0; what <= 4; what++) {
            numbers.add(told(what));
        }
        for (int what = 0; what <= 12; what++) {
            numbers.add(all(what));
        }
        for (int x = 0; x <= now.n; x++) {
            for (int what = 0; what <= 4; what++) {
                numbers.add(place(x, what));
            }
        }
        for (int[] flaw : now.flaws(now.plan())) {
            numbers.add(flaw[0]);
            numbers.add(flaw[1]);
        }
        for (int what = 0; what <= 3; what++) {
            numbers.add(cheapest(what));
        }
        for (Tower t : best().best == null ? List.<Tower>of() : best().best) {
            numbers.add(t.place);
            numbers.add(t.kind);
        }
        for (int x = 0; x <= now.n; x++) {
            numbers.add(through(x));
        }
        long h = 2293;
        for (int number : numbers) {
            h = 31 * h + number;
        }
        return h;
    }
}
