import java.math.BigInteger;
import java.util.ArrayDeque;
import java.util.ArrayList;
import java.util.Deque;
import java.util.LinkedHashMap;
import java.util.List;
import java.util.Map;
import java.util.NoSuchElementException;
import java.util.TreeMap;
import java.util.regex.Matcher;
import java.util.regex.Pattern;

/**
 * A second program for the same document, as plain and slow as can be, with the whole Java library:
 * texts are Strings read by patterns, a law is read anew for each floor, states are texts,
 * rows are searched for by comparing all of them.
 */
final class Oracle {
    static final int NONE = -1;

    private static final class Rider {
        int home;
        int wish;
        int truth = 10;
        int at;
        boolean in;
        int ridden;

        Rider copy() {
            Rider r = new Rider();
            r.home = home;
            r.wish = wish;
            r.truth = truth;
            r.at = at;
            r.in = in;
            r.ridden = ridden;
            return r;
        }
    }

    /** Everything about a lift at one time; rides work on copies of it. */
    private static final class World {
        int floors = 2;
        int lift = 0;
        int rides = 0;
        int dog = NONE;
        String law = "w";
        List<Rider> riders = new ArrayList<>();

        World copy() {
            World w = new World();
            w.floors = floors;
            w.lift = lift;
            w.rides = rides;
            w.dog = dog;
            w.law = law;
            for (Rider r : riders) {
                w.riders.add(r.copy());
            }
            return w;
        }

        int worth(int f) {
            Reader reader = new Reader(law, this, f);
            int v = reader.expression(0);
            if (reader.p != law.length()) {
                throw new AssertionError("law " + law);
            }
            return v;
        }

        int stop() {
            if ((rides + 1) % 7 == 0 && dog != NONE && dog != lift) {
                return dog;
            }
            List<Integer> others = new ArrayList<>();
            for (int f = 0; f < floors; f++) {
                if (f != lift) {
                    others.add(f);
                }
            }
            Map<Integer, Integer> worths = new TreeMap<>();
            for (int f : others) {
                worths.put(f, worth(f));
            }
            others.sort((a, b) -> {
                int c = Integer.compare(worths.get(a), worths.get(b));
                c = c != 0 ? c : Integer.compare(Math.abs(a - lift), Math.abs(b - lift));
                return c != 0 ? c : Integer.compare(a, b);
            });
            return others.get(0);
        }

        int ride() {
            int to = stop();
            int came = 0;
            for (int i = 0; i < riders.size(); i++) {
                Rider r = riders.get(i);
                if (r.in) {
                    r.ridden++;
                    r.at = to;
                    if (r.home == to) {
                        r.in = false;
                        r.at = NONE;
                        came |= 1 << i;
                    }
                }
            }
            lift = to;
            rides++;
            return came;
        }

        int there() {
            int bits = 0;
            for (int i = 0; i < riders.size(); i++) {
                bits |= riders.get(i).at == lift ? 1 << i : 0;
            }
            return bits;
        }

        int in() {
            int bits = 0;
            for (int i = 0; i < riders.size(); i++) {
                bits |= riders.get(i).in ? 1 << i : 0;
            }
            return bits;
        }

        int home() {
            int bits = 0;
            for (int i = 0; i < riders.size(); i++) {
                bits |= riders.get(i).at == NONE ? 1 << i : 0;
            }
            return bits;
        }

        /** A copy in which of those on the lift's floor just those are in. */
        World with(int those) {
            World w = copy();
            for (int i = 0; i < riders.size(); i++) {
                w.riders.get(i).in = (those >> i & 1) != 0;
            }
            return w;
        }

        String state() {
            StringBuilder s = new StringBuilder();
            for (Rider r : riders) {
                s.append(r.at).append(',');
            }
            return s.append('|').append(lift).append('|').append(rides % 7).toString();
        }
    }

    /** Reads and reckons an expression; throws IllegalArgumentException where it can't stand. */
    private static final class Reader {
        final String s;
        final World w;
        final int f;
        int p = 0;

        Reader(String s, World w, int f) {
            this.s = s;
            this.w = w;
            this.f = f;
        }

        char peek() {
            return p < s.length() ? s.charAt(p) : 0;
        }

        int expression(int depth) {
            int a = sum(depth);
            char c = peek();
            if (c == '<' || c == '>' || c == '=') {
                p++;
                int b = sum(depth);
                boolean yes = c == '<' ? a < b : c == '>' ? a > b : a == b;
                return yes ? 1 : 0;
            }
            return a;
        }

        int sum(int depth) {
            int a = product(depth);
            while (peek() == '+' || peek() == '-') {
                char c = s.charAt(p++);
                int b = product(depth);
                a = c == '+' ? a + b : a - b;
            }
            return a;
        }

        int product(int depth) {
            int a = thing(depth);
            while (peek() == '*' || peek() == '/') {
                char c = s.charAt(p++);
                int b = thing(depth);
                a = c == '*' ? a * b : b == 0 ? 0 : a / b;
            }
            return a;
        }

        int thing(int depth) {
            char c = peek();
            if (c == '-') {
                p++;
                return -thing(depth);
            }
            if (c == '(') {
                if (depth == 4) {
                    throw new IllegalArgumentException();
                }
                p++;
                int v = expression(depth + 1);
                if (peek() != ')') {
                    throw new IllegalArgumentException();
                }
                p++;
                return v;
            }
            if (c >= '0' && c <= '9') {
                int start = p;
                while (p < start + 3 && peek() >= '0' && peek() <= '9') {
                    p++;
                }
                return Integer.parseInt(s.substring(start, p));
            }
            p++;
            return name(c);
        }

        int name(char c) {
            int n = 0;
            int wished = 0;
            int stand = 0;
            for (Rider r : w.riders) {
                n += r.in ? 1 : 0;
                wished += r.in && r.wish == f ? 1 : 0;
                stand += !r.in && r.at == f ? 1 : 0;
            }
            switch (c) {
                case 'f': return f;
                case 'w': return wished;
                case 'd': return Math.abs(f - w.lift);
                case 's': return stand;
                case 'n': return n;
                case 'r': return w.rides;
                case 'l': return w.lift;
                default: throw new IllegalArgumentException();
            }
        }
    }

    private World w = new World();
    private String text = "";
    private List<Long> row = new ArrayList<>();
    private final Deque<World> past = new ArrayDeque<>();
    private final World[] kept = new World[3];
    private final List<int[]> seen = new ArrayList<>();

    private void tell(long... numbers) {
        row = new ArrayList<>();
        for (long n : numbers) {
            row.add(n);
        }
    }

    private void comeAnew() {
        past.clear();
        for (int i = 0; i < 3; i++) {
            kept[i] = null;
        }
    }

    private void push(World before) {
        past.addLast(before);
        if (past.size() > 20) {
            past.removeFirst();
        }
    }

    private boolean isRider(int i) {
        return i >= 0 && i < w.riders.size();
    }

    private boolean isFloor(int f) {
        return f >= 0 && f < w.floors;
    }

    private int everybody() {
        return (1 << w.riders.size()) - 1;
    }

    /** Where, moments and wishes of one world come into the one that is. */
    private void restore(World from) {
        w.lift = from.lift;
        w.rides = from.rides;
        for (int i = 0; i < w.riders.size(); i++) {
            Rider a = w.riders.get(i);
            Rider b = from.riders.get(i);
            a.at = b.at;
            a.in = b.in;
            a.wish = b.wish;
            a.ridden = b.ridden;
        }
    }

    // ---- the house

    int sign(int v) {
        if (text.length() > 76) {
            return NONE;
        }
        for (int k = 24; k >= 0; k -= 8) {
            text += (char) (v >> k & 255);
        }
        return text.length();
    }

    boolean end(int n) {
        if (n < 0 || n > text.length()) {
            return false;
        }
        text = text.substring(0, n);
        return true;
    }

    boolean floors(int n) {
        if (n < 2 || n > 9) {
            return false;
        }
        String law = w.law;
        w = new World();
        w.law = law;
        w.floors = n;
        seen.clear();
        comeAnew();
        return true;
    }

    private String takeText() {
        String t = text;
        text = "";
        return t;
    }

    interface Viable {
        boolean can(String prefix);
    }

    /** The first place where what stands there can't go on (or NONE). */
    private static int flaw(String t, int limit, Viable viable, Viable whole) {
        for (int p = 0; p < Math.min(t.length(), limit); p++) {
            if (!viable.can(t.substring(0, p + 1))) {
                return p;
            }
        }
        if (t.length() > limit) {
            return limit;
        }
        return whole.can(t) ? NONE : t.length();
    }

    private static boolean begins(Pattern pattern, String s) {
        Matcher m = pattern.matcher(s);
        return m.matches() || m.hitEnd();
    }

    int house() {
        String t = takeText();
        if (t.isEmpty()) {
            return 0;
        }
        int room = 10 - w.riders.size();
        String digit = "[0-" + (w.floors - 1) + "]";
        String line = digit + ">(?:-|" + digit + ")@(?:" + w.lift + "!|" + digit + ")";
        Pattern whole = Pattern.compile(line + "(?:;" + line + ")*", Pattern.DOTALL);
        Pattern start = room == 0 ? null : Pattern.compile(line + "(?:;" + line + "){0," + (room - 1) + "};?", Pattern.DOTALL);
        int flaw = flaw(t, 76, s -> start != null && begins(start, s), s -> whole.matcher(s).matches());
        if (flaw != NONE) {
            return -1 - flaw;
        }
        String[] lines = t.split(";");
        for (String l : lines) {
            Rider r = new Rider();
            r.home = l.charAt(0) - '0';
            r.wish = l.charAt(2) == '-' ? NONE : l.charAt(2) - '0';
            r.at = l.charAt(4) - '0';
            r.in = l.endsWith("!");
            w.riders.add(r);
        }
        comeAnew();
        return lines.length;
    }

    private static boolean isLaw(String s) {
        try {
            Reader r = new Reader(s, new World(), 0);
            r.expression(0);
            return r.p == s.length();
        } catch (IllegalArgumentException e) {
            return false;
        }
    }

    private static boolean lawCanGoOn(String s) {
        for (String behind : new String[] {"", ")", "))", ")))", "))))"}) {
            if (isLaw(s + behind) || isLaw(s + "w" + behind)) {
                return true;
            }
        }
        return false;
    }

    int law() {
        String t = takeText();
        if (t.isEmpty()) {
            w.law = "w";
            return 0;
        }
        int flaw = flaw(t, 40, Oracle::lawCanGoOn, Oracle::isLaw);
        if (flaw != NONE) {
            return -1 - flaw;
        }
        w.law = t;
        return 0;
    }

    int of(int rider, int what) {
        if (!isRider(rider) || what < 0 || what > 5) {
            throw new NoSuchElementException();
        }
        Rider r = w.riders.get(rider);
        return new int[] {r.home, r.wish, r.truth, r.at, r.in ? 1 : 0, r.ridden}[what];
    }

    boolean set(int what, int rider, int v) {
        if (!isRider(rider)) {
            return false;
        }
        Rider r = w.riders.get(rider);
        if (what == 0 && isFloor(v)) {
            r.home = v;
        } else if (what == 1 && (v == NONE || isFloor(v))) {
            r.wish = v;
        } else if (what == 2 && v >= 0 && v <= 10) {
            r.truth = v;
        } else {
            return false;
        }
        return true;
    }

    int sheet(int kind, int n, int f, int step) {
        if (kind < 0 || kind > 3 || n > 10) {
            return NONE;
        }
        if (kind < 3 && n < 0) {
            return -2;
        }
        List<Integer> entries = new ArrayList<>();
        for (int i = 0; kind < 3 && i < n; i++) {
            int e = f + i * step;
            entries.add(kind == 0 ? (byte) e : kind == 1 ? (short) e : e);
        }
        int have = 0;
        for (int i = 0; i < w.riders.size(); i++) {
            int e = i < entries.size() ? entries.get(i) : NONE;
            w.riders.get(i).wish = isFloor(e) ? e : NONE;
            have += isFloor(e) ? 1 : 0;
        }
        return kind == 3 ? -3 : have;
    }

    boolean dog(int f) {
        if (f != NONE && !isFloor(f)) {
            return false;
        }
        w.dog = f;
        return true;
    }

    int crowd(int seed, int n) {
        if (n < 0 || n > 10) {
            return NONE;
        }
        BigInteger r = BigInteger.valueOf(seed);
        int came = 0;
        while (w.riders.size() < n) {
            int[] drawn = new int[3];
            for (int k = 0; k < 3; k++) {
                r = r.multiply(BigInteger.valueOf(1103515245)).add(BigInteger.valueOf(12345));
                BigInteger unsigned = r.mod(BigInteger.ONE.shiftLeft(32));
                drawn[k] = unsigned.divide(BigInteger.valueOf(65536)).mod(BigInteger.valueOf(w.floors)).intValue();
            }
            Rider one = new Rider();
            one.home = drawn[0];
            one.wish = drawn[1];
            one.at = drawn[2];
            w.riders.add(one);
            came++;
        }
        if (came > 0) {
            comeAnew();
        }
        return came;
    }

    // ---- rides

    private boolean pass(int rider, boolean inward) {
        if (!isRider(rider)) {
            return false;
        }
        Rider r = w.riders.get(rider);
        if (r.at != w.lift || r.in == inward) {
            return false;
        }
        r.in = inward;
        return true;
    }

    boolean enter(int rider) {
        World before = w.copy();
        boolean done = pass(rider, true);
        if (done) {
            push(before);
        }
        return done;
    }

    boolean leave(int rider) {
        World before = w.copy();
        boolean done = pass(rider, false);
        if (done) {
            push(before);
        }
        return done;
    }

    int ride() {
        push(w.copy());
        tell(w.ride());
        return w.lift;
    }

    int rides(int n) {
        if (n < 0 || n > 60) {
            return NONE;
        }
        World before = w.copy();
        int done = 0;
        int came = 0;
        for (; done < n && w.in() != 0; done++) {
            came |= w.ride();
        }
        if (done > 0) {
            push(before);
        }
        tell(came, w.lift);
        return done;
    }

    private static final String ACT = "(?:[io](?=[a-j])a?b?c?d?e?f?g?h?i?j?|w[a-j][-0-9]|r[1-9]?)";
    private static final Pattern DAY = Pattern.compile(ACT + "(?:;" + ACT + ")*");

    int day() {
        String t = takeText();
        int flaw = t.isEmpty() ? NONE : flaw(t, 60, s -> begins(DAY, s), s -> DAY.matcher(s).matches());
        if (flaw != NONE) {
            return -1 - flaw;
        }
        World before = w.copy();
        int acts = 0;
        int rides = 0;
        boolean could = true;
        boolean did = false;
        for (String act : t.isEmpty() ? new String[0] : t.split(";")) {
            char c = act.charAt(0);
            if (c == 'r') {
                int times = act.length() > 1 ? act.charAt(1) - '0' : 1;
                for (int k = 0; k < times; k++) {
                    w.ride();
                    rides++;
                    did = true;
                }
            } else if (c == 'w') {
                could = set(1, act.charAt(1) - 'a', act.charAt(2) == '-' ? NONE : act.charAt(2) - '0');
                did |= could;
            } else {
                for (int k = 1; k < act.length() && could; k++) {
                    could = pass(act.charAt(k) - 'a', c == 'i');
                    did |= could;
                }
            }
            if (!could) {
                break;
            }
            acts++;
        }
        if (did) {
            push(before);
        }
        tell(rides, could ? 0 : 1);
        return acts;
    }

    int undo() {
        if (past.isEmpty()) {
            return NONE;
        }
        restore(past.removeLast());
        return past.size();
    }

    // ---- where it goes

    int stop() {
        return w.stop();
    }

    int goes(int those) {
        if ((those & ~w.there()) != 0) {
            return -2;
        }
        World then = w.with(those);
        row = new ArrayList<>();
        for (int f = 0; f < w.floors; f++) {
            row.add((long) then.worth(f));
        }
        return then.stop();
    }

    int worthOf(int f) {
        if (!isFloor(f)) {
            throw new NoSuchElementException();
        }
        return w.worth(f);
    }

    private List<Integer> setsOf(int those) {
        List<Integer> sets = new ArrayList<>();
        for (int s = 0; s <= those; s++) {
            if ((s & ~those) == 0) {
                sets.add(s);
            }
        }
        return sets;
    }

    int can() {
        long[] ways = new long[w.floors];
        int bits = 0;
        for (int s : setsOf(w.there())) {
            int f = w.with(s).stop();
            ways[f]++;
            bits |= 1 << f;
        }
        tell(ways);
        return bits;
    }

    private int fewest(int f, int movable) {
        if (!isFloor(f)) {
            return NONE;
        }
        for (int many = 0; many <= 10; many++) {
            for (int s : setsOf(movable)) {
                if (Integer.bitCount(s) == many && w.with(w.in() ^ s).stop() == f) {
                    tell(s);
                    return many;
                }
            }
        }
        return -2;
    }

    int along(int f) {
        return fewest(f, w.there() & ~w.in());
    }

    int without(int f) {
        return fewest(f, w.in());
    }

    /** The wish and how far the stop is then. */
    private static int[] advice(World from, int rider) {
        List<Integer> order = new ArrayList<>();
        order.add(from.riders.get(rider).wish);
        for (int f = NONE; f < from.floors; f++) {
            order.add(f);
        }
        int[] best = null;
        for (int wish : order) {
            World v = from.copy();
            v.riders.get(rider).wish = wish;
            int far = Math.abs(v.stop() - v.riders.get(rider).home);
            if (best == null || far < best[1]) {
                best = new int[] {wish, far};
            }
        }
        return best;
    }

    int advise(int rider) {
        if (!isRider(rider) || !w.riders.get(rider).in) {
            return -2;
        }
        int[] best = advice(w, rider);
        tell(best[1]);
        return best[0];
    }

    int rests(int n) {
        if (n < 0 || n > 30) {
            return NONE;
        }
        World v = w.copy();
        int rounds = 0;
        boolean rested = false;
        while (rounds < n && !rested) {
            rested = true;
            for (int i = 0; i < v.riders.size(); i++) {
                if (v.riders.get(i).in) {
                    int wish = advice(v, i)[0];
                    if (wish != v.riders.get(i).wish) {
                        rested = false;
                        v.riders.get(i).wish = wish;
                    }
                }
            }
            rounds++;
        }
        tell(rested ? 1 : 0, v.stop());
        for (Rider r : v.riders) {
            row.add((long) r.wish);
        }
        return rounds;
    }

    int then(int n) {
        if (n < 0 || n > 12) {
            return NONE;
        }
        World v = w.copy();
        int came = 0;
        row = new ArrayList<>();
        for (int k = 0; k < n; k++) {
            came += Integer.bitCount(v.ride());
            row.add((long) v.lift);
        }
        return came;
    }

    int since(int rider) {
        if (!isRider(rider) || !w.riders.get(rider).in) {
            return NONE;
        }
        if (w.law.indexOf('r') >= 0) {
            return -4;
        }
        World v = w.copy();
        for (int k = 1; k <= 2000; k++) {
            v.ride();
            if (v.riders.get(rider).at == NONE) {
                return k;
            }
        }
        return -2;
    }

    private int others(int rider, boolean in, int n) {
        World v = w.copy();
        v.riders.get(rider).in = in;
        int came = 0;
        for (int k = 0; k < n; k++) {
            came |= v.ride();
        }
        return Integer.bitCount(came & ~(1 << rider));
    }

    int ballast(int rider, int n) {
        if (!isRider(rider) || !w.riders.get(rider).in || n < 0 || n > 40) {
            throw new NoSuchElementException();
        }
        return others(rider, true, n) - others(rider, false, n);
    }

    int hinders(int n) {
        if (n < 0 || n > 40) {
            return NONE;
        }
        TreeMap<Integer, Integer> firstBy = new TreeMap<>();
        for (int i = 0; i < w.riders.size(); i++) {
            if (w.riders.get(i).in) {
                firstBy.putIfAbsent(others(i, false, n), i);
            }
        }
        if (firstBy.isEmpty()) {
            return -2;
        }
        tell(firstBy.lastKey());
        return firstBy.lastEntry().getValue();
    }

    // ---- plans

    interface Goal {
        boolean is(World v);
    }

    /** What a search has found: states in their order with their depth, and for each the least row of sets. */
    private static final class Found {
        final Map<String, World> worlds = new LinkedHashMap<>();
        final Map<String, Integer> depth = new LinkedHashMap<>();
        boolean more = false;
        int goalDepth = NONE;
    }

    private Found search(Goal goal, int deepest) {
        Found found = new Found();
        World first = w.with(0);
        found.worlds.put(first.state(), first);
        found.depth.put(first.state(), 0);
        List<World> queue = new ArrayList<>();
        queue.add(first);
        if (goal.is(first)) {
            found.goalDepth = 0;
            return found;
        }
        for (int k = 0; k < queue.size(); k++) {
            World from = queue.get(k);
            int depth = found.depth.get(from.state());
            if (depth == deepest) {
                return found;
            }
            for (int s : setsOf(from.there())) {
                World next = from.with(s);
                next.ride();
                next = next.with(0);
                String key = next.state();
                if (found.worlds.containsKey(key)) {
                    continue;
                }
                if (found.worlds.size() == 3000) {
                    found.more = true;
                    return found;
                }
                found.worlds.put(key, next);
                found.depth.put(key, depth + 1);
                queue.add(next);
                if (goal.is(next)) {
                    found.goalDepth = depth + 1;
                    return found;
                }
            }
        }
        return found;
    }

    private static int compareRows(List<Long> a, List<Long> b) {
        for (int i = 0; i < Math.min(a.size(), b.size()); i++) {
            int c = Long.compare(a.get(i), b.get(i));
            if (c != 0) {
                return c;
            }
        }
        return Integer.compare(a.size(), b.size());
    }

    /** Of all plans of so many rides that end as is asked the least row, level by level. */
    private List<Long> leastRow(Goal goal, int rides) {
        Map<String, World> level = new LinkedHashMap<>();
        Map<String, List<Long>> rows = new LinkedHashMap<>();
        World first = w.with(0);
        level.put(first.state(), first);
        rows.put(first.state(), new ArrayList<>());
        for (int k = 0; k < rides; k++) {
            Map<String, World> nextLevel = new LinkedHashMap<>();
            Map<String, List<Long>> nextRows = new LinkedHashMap<>();
            for (Map.Entry<String, World> e : level.entrySet()) {
                for (int s : setsOf(e.getValue().there())) {
                    World next = e.getValue().with(s);
                    next.ride();
                    next = next.with(0);
                    List<Long> r = new ArrayList<>(rows.get(e.getKey()));
                    r.add((long) s);
                    List<Long> known = nextRows.get(next.state());
                    if (known == null || compareRows(r, known) < 0) {
                        nextRows.put(next.state(), r);
                        nextLevel.put(next.state(), next);
                    }
                }
            }
            level = nextLevel;
            rows = nextRows;
        }
        List<Long> best = null;
        for (Map.Entry<String, World> e : level.entrySet()) {
            List<Long> r = rows.get(e.getKey());
            if (goal.is(e.getValue()) && (best == null || compareRows(r, best) < 0)) {
                best = r;
            }
        }
        return best;
    }

    private int plan(Goal goal, boolean withRow) {
        if (w.law.indexOf('r') >= 0) {
            return -4;
        }
        Found found = search(goal, Integer.MAX_VALUE);
        if (found.goalDepth == NONE) {
            return found.more ? -3 : -2;
        }
        if (withRow) {
            List<Long> best = leastRow(goal, found.goalDepth);
            row = new ArrayList<>(best.subList(0, Math.min(10, best.size())));
        }
        return found.goalDepth;
    }

    int all() {
        return plan(v -> v.home() == (1 << v.riders.size()) - 1, true);
    }

    int one(int rider) {
        if (!isRider(rider)) {
            return NONE;
        }
        return plan(v -> v.riders.get(rider).at == NONE, true);
    }

    int gather(int f, int those) {
        if (!isFloor(f) || (those & ~everybody()) != 0) {
            return NONE;
        }
        return plan(v -> v.lift == f && v.there() == those, false);
    }

    int states(int n) {
        if (n < 0 || n > 6) {
            return NONE;
        }
        if (w.law.indexOf('r') >= 0) {
            return -4;
        }
        Found found = search(v -> false, n);
        if (found.more) {
            return -3;
        }
        int home = 0;
        int lifts = 0;
        for (World v : found.worlds.values()) {
            home |= v.home();
            lifts |= 1 << v.lift;
        }
        tell(home, lifts);
        return found.worlds.size();
    }

    int stuck() {
        if (w.law.indexOf('r') >= 0) {
            return -4;
        }
        Found found = search(v -> false, Integer.MAX_VALUE);
        if (found.more) {
            return -3;
        }
        int home = 0;
        for (World v : found.worlds.values()) {
            home |= v.home();
        }
        return everybody() & ~home;
    }

    // ---- stops that were seen

    int saw(int from, int those, int to) {
        if (!isFloor(from) || !isFloor(to) || from == to || (those & ~everybody()) != 0 || seen.size() == 8) {
            return NONE;
        }
        seen.add(new int[] {from, those, to});
        return seen.size();
    }

    int forget() {
        int n = seen.size();
        seen.clear();
        return n;
    }

    private int notSo(int[] wishes) {
        int bits = 0;
        for (int k = 0; k < seen.size(); k++) {
            World v = w.copy();
            v.lift = seen.get(k)[0];
            v.rides = 0;
            for (int i = 0; i < v.riders.size(); i++) {
                Rider r = v.riders.get(i);
                r.in = (seen.get(k)[1] >> i & 1) != 0;
                r.at = r.in ? v.lift : NONE;
                r.wish = wishes[i];
            }
            bits |= v.stop() == seen.get(k)[2] ? 0 : 1 << k;
        }
        return bits;
    }

    private int[] told() {
        int[] wishes = new int[w.riders.size()];
        for (int i = 0; i < wishes.length; i++) {
            wishes[i] = w.riders.get(i).wish;
        }
        return wishes;
    }

    int believed() {
        int wrong = notSo(told());
        tell(wrong);
        return wrong == 0 ? 1 : 0;
    }

    int fits(int rider) {
        if (!isRider(rider)) {
            return NONE;
        }
        int bits = 0;
        for (int v = NONE; v < w.floors; v++) {
            int[] wishes = told();
            wishes[rider] = v;
            if (notSo(wishes) == 0) {
                bits |= v == NONE ? 512 : 1 << v;
            }
        }
        return bits;
    }

    int lies() {
        if (notSo(told()) == 0) {
            tell(0);
            return 0;
        }
        int n = w.riders.size();
        List<Long> best = null;
        for (int i = 0; i < n; i++) {
            for (int v = NONE; v < w.floors; v++) {
                int[] wishes = told();
                if (wishes[i] != v) {
                    wishes[i] = v;
                    if (notSo(wishes) == 0) {
                        best = lesser(best, List.of(1L << i, (long) v));
                    }
                }
            }
        }
        if (best != null) {
            row = best;
            return 1;
        }
        for (int i = 0; i < n; i++) {
            for (int j = i + 1; j < n; j++) {
                for (int v = NONE; v < w.floors; v++) {
                    for (int u = NONE; u < w.floors; u++) {
                        int[] wishes = told();
                        if (wishes[i] != v && wishes[j] != u) {
                            wishes[i] = v;
                            wishes[j] = u;
                            if (notSo(wishes) == 0) {
                                best = lesser(best, List.of(1L << i | 1L << j, (long) v, (long) u));
                            }
                        }
                    }
                }
            }
        }
        if (best != null) {
            row = best;
            return 2;
        }
        return -2;
    }

    private static List<Long> lesser(List<Long> a, List<Long> b) {
        return a == null || compareRows(b, a) < 0 ? b : a;
    }

    int truly(int f) {
        if (!isFloor(f)) {
            return NONE;
        }
        int bits = 0;
        for (int i = 0; i < w.riders.size(); i++) {
            boolean can = false;
            for (int j = 0; j < w.riders.size(); j++) {
                for (int v = NONE; v < w.floors; v++) {
                    int[] wishes = told();
                    wishes[j] = v;
                    wishes[i] = f;
                    can |= notSo(wishes) == 0;
                }
            }
            bits |= can ? 1 << i : 0;
        }
        return bits;
    }

    // ---- odds and two lifts

    private BigInteger[] parts() {
        BigInteger[] parts = new BigInteger[w.floors];
        for (int f = 0; f < w.floors; f++) {
            parts[f] = BigInteger.ZERO;
        }
        weigh(w.copy(), 0, BigInteger.ONE, parts);
        return parts;
    }

    private void weigh(World v, int i, BigInteger weight, BigInteger[] parts) {
        if (weight.signum() == 0) {
            return;
        }
        if (i == v.riders.size()) {
            int f = v.stop();
            parts[f] = parts[f].add(weight);
            return;
        }
        Rider r = v.riders.get(i);
        if (!r.in) {
            weigh(v, i + 1, weight, parts);
            return;
        }
        World honest = v.copy();
        honest.riders.get(i).wish = r.home;
        weigh(honest, i + 1, weight.multiply(BigInteger.valueOf(r.truth)), parts);
        weigh(v, i + 1, weight.multiply(BigInteger.valueOf(10 - r.truth)), parts);
    }

    private void tellFraction(BigInteger part) {
        BigInteger whole = BigInteger.TEN.pow(Integer.bitCount(w.in()));
        BigInteger g = part.gcd(whole);
        tell(part.divide(g).longValueExact(), whole.divide(g).longValueExact());
    }

    int odds(int f) {
        if (!isFloor(f)) {
            return NONE;
        }
        tellFraction(parts()[f]);
        return 0;
    }

    int likely() {
        BigInteger[] parts = parts();
        int best = 0;
        for (int f = 1; f < w.floors; f++) {
            best = parts[f].compareTo(parts[best]) > 0 ? f : best;
        }
        tellFraction(parts[best]);
        return best;
    }

    int split() {
        int most = -1;
        for (int a : setsOf(w.there())) {
            World first = w.with(a);
            World second = w.with(w.there() & ~a);
            int came = Integer.bitCount(first.ride()) + Integer.bitCount(second.ride());
            if (came > most) {
                most = came;
                tell(a, first.lift, second.lift);
            }
        }
        return most;
    }

    // ---- kept

    boolean keep(int i) {
        if (i < 0 || i > 2) {
            return false;
        }
        kept[i] = w.copy();
        return true;
    }

    boolean again(int i) {
        if (i < 0 || i > 2 || kept[i] == null) {
            return false;
        }
        restore(kept[i]);
        past.clear();
        return true;
    }

    int count(int what) {
        switch (what) {
            case 0: return w.floors;
            case 1: return w.riders.size();
            case 2: return w.lift;
            case 3: return w.rides;
            case 4: return w.in();
            case 5: return w.there() & ~w.in();
            case 6: return w.home();
            case 7: return w.dog;
            case 8: return past.size();
            case 9: return seen.size();
            case 10: return row.size();
            case 11: return text.length();
            default: return -100;
        }
    }

    long row(int i) {
        if (i < 0 || i >= row.size()) {
            throw new NoSuchElementException();
        }
        return row.get(i);
    }
}
