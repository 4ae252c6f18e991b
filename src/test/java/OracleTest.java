import java.util.ArrayList;
import java.util.List;
import java.util.NoSuchElementException;
import java.util.Random;

/** Drawn runs of calls (the same each time) on LeastWished and on the Oracle: every answer, row and count is compared. */
public final class OracleTest {
    private static final long THROWN = Long.MIN_VALUE;
    private static final int SHOWN = 10;

    private final Random draw;
    private final LeastWished x = new LeastWished();
    private final Oracle o = new Oracle();
    private final List<String> calls = new ArrayList<>();
    private boolean same = true;

    private OracleTest(long seed) {
        draw = new Random(seed);
    }

    public static void main(String[] args) {
        int runs = args.length > 0 ? Integer.parseInt(args[0]) : 1500;
        long first = args.length > 1 ? Long.parseLong(args[1]) : 1;
        int wrong = 0;
        for (long seed = first; seed < first + runs && wrong < SHOWN; seed++) {
            OracleTest test = new OracleTest(seed);
            test.run(seed);
            wrong += test.same ? 0 : 1;
        }
        System.out.println("OracleTest: " + runs + " runs, " + wrong + " wrong");
        if (wrong != 0) {
            System.exit(1);
        }
    }

    private void run(long seed) {
        int size = 1 + draw.nextInt(3);
        int length = 20 + draw.nextInt(60) + (draw.nextInt(10) == 0 ? 200 : 0);
        both("floors", 2 + draw.nextInt(size == 1 ? 3 : 8));
        if (draw.nextBoolean()) {
            law(LAWS[draw.nextInt(LAWS.length)]);
        }
        if (draw.nextInt(3) == 0) {
            house(drawnHouse(1 + draw.nextInt(2 + 2 * size)).replaceAll("@\\d!?", draw.nextBoolean() ? "@0!" : "@0"));
        } else if (draw.nextBoolean()) {
            house(drawnHouse(1 + draw.nextInt(2 + 2 * size)));
        } else {
            crowd(draw.nextInt(), draw.nextInt(2 + 2 * size));
        }
        for (int k = 0; k < length && same; k++) {
            step();
            compareState();
        }
        if (!same) {
            System.out.println("seed " + seed + ": " + String.join("; ", calls));
        }
    }

    private void both(String name, int n) {
        compare(name + "(" + n + ")", () -> x.floors(n) ? 1 : 0, () -> o.floors(n) ? 1 : 0);
    }

    private void compare(String call, Check.Call a, Check.Call b) {
        if (!same) {
            return;
        }
        long got = answer(a);
        long want = answer(b);
        calls.add(call + " -> " + got);
        if (got != want) {
            same = false;
            System.out.println(call + " answered " + got + ", the oracle " + want);
        }
    }

    private static long answer(Check.Call call) {
        try {
            return call.answer();
        } catch (NoSuchElementException e) {
            return THROWN;
        }
    }

    private void compareState() {
        int size = calls.size();
        for (int what = -1; what <= 12; what++) {
            int w = what;
            compare("count(" + w + ")", () -> x.count(w), () -> o.count(w));
        }
        for (int i = -1; i <= x.count(10); i++) {
            int k = i;
            compare("row(" + k + ")", () -> x.row(k), () -> o.row(k));
        }
        for (int i = -1; i <= x.count(1); i++) {
            for (int what = -1; what <= 6; what++) {
                int k = i;
                int w = what;
                compare("of(" + k + ", " + w + ")", () -> x.of(k, w), () -> o.of(k, w));
            }
        }
        if (same) {
            while (calls.size() > size) {
                calls.remove(calls.size() - 1);
            }
        }
    }

    // ---- what is drawn

    private static final String[] LAWS = {
        "w", "-w", "f", "d", "-d", "s", "w+s", "w*10-d", "w*3+d", "n-w*2+f", "(w>0)*9+d", "w=s", "l-f", "f=3",
        "w/2", "w/(f-2)", "-(w+1)*(d<3)", "((f-4)*(f-4))/(1+s)", "999*999*999*f", "f-2*(f>3)*f", "s-w", "d*(n>1)-w",
        "r-f", "w+r/7", "(r*f)/3", "0", "0-1", "--w", "w-f/9", "5-w*d", "((((w))))-f"};

    private int rider() {
        return draw.nextInt(14) - 1 - draw.nextInt(2) * draw.nextInt(3);
    }

    private int someRider() {
        int here = x.count(4) | x.count(5);
        if (here != 0 && draw.nextInt(3) != 0) {
            int chosen = here;
            for (int k = draw.nextInt(Integer.bitCount(here)); k > 0; k--) {
                chosen &= chosen - 1;
            }
            return Integer.numberOfTrailingZeros(chosen);
        }
        return draw.nextInt(6) == 0 ? rider() : draw.nextInt(Math.max(1, x.count(1)));
    }

    private int floor() {
        return draw.nextInt(8) == 0 ? draw.nextInt(14) - 3 : draw.nextInt(x.count(0));
    }

    private int bits(int within) {
        return draw.nextInt(8) == 0 ? draw.nextInt(5000) - 1000 : draw.nextInt() & within;
    }

    private String drawnHouse(int lines) {
        StringBuilder s = new StringBuilder();
        int f = x.count(0);
        for (int i = 0; i < lines; i++) {
            boolean in = draw.nextInt(3) == 0;
            s.append(i == 0 ? "" : ";").append(draw.nextInt(f)).append('>');
            s.append(draw.nextInt(5) == 0 ? "-" : String.valueOf(draw.nextInt(f))).append('@');
            s.append(in || draw.nextInt(3) == 0 ? x.count(2) : draw.nextInt(f)).append(in ? "!" : "");
        }
        return s.toString();
    }

    private String drawnDay(int acts) {
        StringBuilder s = new StringBuilder();
        for (int i = 0; i < acts; i++) {
            s.append(i == 0 ? "" : ";");
            int kind = draw.nextInt(5);
            if (kind < 2) {
                s.append(kind == 0 ? 'i' : 'o');
                int from = 0;
                do {
                    from += draw.nextInt(3);
                    s.append((char) ('a' + Math.min(from, 9)));
                    from++;
                } while (from < 10 && draw.nextInt(3) == 0);
            } else if (kind == 2) {
                s.append('w').append((char) ('a' + draw.nextInt(Math.max(1, x.count(1)))));
                s.append(draw.nextInt(4) == 0 ? "-" : String.valueOf(draw.nextInt(x.count(0))));
            } else {
                s.append('r').append(draw.nextBoolean() ? "" : String.valueOf(1 + draw.nextInt(9)));
            }
        }
        return s.toString();
    }

    private String drawnLaw(int depth) {
        int kind = draw.nextInt(depth > 3 ? 3 : 9);
        switch (kind) {
            case 0: return String.valueOf(draw.nextInt(1000));
            case 1:
            case 2: return String.valueOf("fwdsnrl".charAt(draw.nextInt(7)));
            case 3: return "-" + drawnLaw(depth + 1);
            case 4: return "(" + drawnLaw(depth + 1) + ")";
            default: return drawnLaw(depth + 1) + "+-*/<>=*+".charAt(draw.nextInt(9)) + drawnLaw(depth + 1);
        }
    }

    private String spoilt(String text, String signs) {
        String t = text.length() > 80 ? text.substring(0, 80) : text;
        int times = draw.nextInt(3);
        for (int k = 0; k < times; k++) {
            int p = draw.nextInt(t.length() + 1);
            String c = draw.nextInt(9) == 0 ? String.valueOf((char) draw.nextInt(256))
                    : String.valueOf(signs.charAt(draw.nextInt(signs.length())));
            int behind = Math.min(t.length(), p + draw.nextInt(2));
            t = t.substring(0, p) + (draw.nextInt(4) == 0 ? "" : c) + t.substring(behind);
        }
        return t.length() > 80 ? t.substring(0, 80) : t;
    }

    private void text(String t) {
        calls.add("text " + t);
        Check.text(x, t);
        o.end(0);
        for (int p = 0; p < t.length(); p += 4) {
            int v = 0;
            for (int k = 0; k < 4; k++) {
                v = v << 8 | (p + k < t.length() ? t.charAt(p + k) & 255 : 0);
            }
            o.sign(v);
        }
        o.end(t.length());
    }

    private void house(String t) {
        text(t);
        compare("house()", x::house, o::house);
    }

    private void law(String t) {
        text(t);
        compare("law()", x::law, o::law);
    }

    private void day(String t) {
        text(t);
        compare("day()", x::day, o::day);
    }

    private void crowd(int seed, int n) {
        compare("crowd(" + seed + ", " + n + ")", () -> x.crowd(seed, n), () -> o.crowd(seed, n));
    }

    // ---- one call

    private void step() {
        switch (draw.nextInt(9)) {
            case 0:
                stepHouse(draw.nextInt(14));
                break;
            case 1:
            case 2:
                stepRides(draw.nextInt(8));
                break;
            case 3:
            case 4:
                stepWhere(draw.nextInt(12));
                break;
            case 5:
                stepPlans(draw.nextInt(5));
                break;
            case 6:
                stepSeen(draw.nextInt(9));
                break;
            case 7:
                stepOdds(draw.nextInt(3));
                break;
            default:
                stepKept(draw.nextInt(4));
                break;
        }
    }

    private void stepHouse(int which) {
        int a = draw.nextInt();
        int n = draw.nextInt(14) - 2;
        int f = floor();
        int i = someRider();
        switch (which) {
            case 0:
                compare("sign(" + a + ")", () -> x.sign(a), () -> o.sign(a));
                break;
            case 1:
                compare("end(" + n + ")", () -> x.end(n) ? 1 : 0, () -> o.end(n) ? 1 : 0);
                break;
            case 2:
                if (draw.nextInt(4) == 0) {
                    both("floors", n);
                }
                break;
            case 3:
                house(spoilt(drawnHouse(1 + draw.nextInt(3)), "0123456789>-@!;"));
                break;
            case 4:
                house(spoilt(drawnHouse(1 + draw.nextInt(14)), "0123456789>-@!;"));
                break;
            case 5:
                String law = drawnLaw(0);
                while (law.length() < 50 && draw.nextInt(3) != 0) {
                    law += "+-*/".charAt(draw.nextInt(4)) + drawnLaw(1);
                }
                law(spoilt(law, "0123456789()fwdsnrl+-*/<>="));
                break;
            case 6:
                law(LAWS[draw.nextInt(LAWS.length)]);
                break;
            case 7:
            case 8:
                int what = draw.nextInt(5) - 1;
                int v = draw.nextInt(4) == 0 ? n : what == 2 ? draw.nextInt(11) : f;
                compare("set(" + what + ", " + i + ", " + v + ")", () -> x.set(what, i, v) ? 1 : 0, () -> o.set(what, i, v) ? 1 : 0);
                break;
            case 9:
            case 10:
                int kind = draw.nextInt(6) - 1;
                int start = draw.nextBoolean() ? draw.nextInt(12) - 2 : draw.nextBoolean() ? 250 + draw.nextInt(12) : a;
                int step = draw.nextBoolean() ? draw.nextInt(5) - 2 : draw.nextInt();
                compare("sheet(" + kind + ", " + n + ", " + start + ", " + step + ")",
                        () -> x.sheet(kind, n, start, step), () -> o.sheet(kind, n, start, step));
                break;
            case 11:
                compare("dog(" + f + ")", () -> x.dog(f) ? 1 : 0, () -> o.dog(f) ? 1 : 0);
                break;
            default:
                crowd(a, n);
                break;
        }
    }

    private void stepRides(int which) {
        int i = someRider();
        int n = draw.nextInt(6) == 0 ? draw.nextInt(70) - 4 : draw.nextInt(5);
        switch (which) {
            case 0:
            case 1:
                compare("enter(" + i + ")", () -> x.enter(i) ? 1 : 0, () -> o.enter(i) ? 1 : 0);
                break;
            case 2:
                compare("leave(" + i + ")", () -> x.leave(i) ? 1 : 0, () -> o.leave(i) ? 1 : 0);
                break;
            case 3:
                compare("ride()", x::ride, o::ride);
                break;
            case 4:
                compare("rides(" + n + ")", () -> x.rides(n), () -> o.rides(n));
                break;
            case 5:
                day(drawnDay(1 + draw.nextInt(4)));
                break;
            case 6:
                day(spoilt(drawnDay(1 + draw.nextInt(22)), "abcdefghij0123456789-;iowr"));
                break;
            default:
                compare("undo()", x::undo, o::undo);
                break;
        }
    }

    private void stepWhere(int which) {
        int i = someRider();
        int f = floor();
        int n = draw.nextInt(5) == 0 ? draw.nextInt(50) - 4 : draw.nextInt(8);
        int those = bits(x.count(4) | x.count(5));
        switch (which) {
            case 0: compare("stop()", x::stop, o::stop); break;
            case 1: compare("goes(" + those + ")", () -> x.goes(those), () -> o.goes(those)); break;
            case 2: compare("worthOf(" + f + ")", () -> x.worthOf(f), () -> o.worthOf(f)); break;
            case 3: compare("can()", x::can, o::can); break;
            case 4: compare("along(" + f + ")", () -> x.along(f), () -> o.along(f)); break;
            case 5: compare("without(" + f + ")", () -> x.without(f), () -> o.without(f)); break;
            case 6: compare("advise(" + i + ")", () -> x.advise(i), () -> o.advise(i)); break;
            case 7: compare("rests(" + n + ")", () -> x.rests(n), () -> o.rests(n)); break;
            case 8: compare("then(" + n + ")", () -> x.then(n), () -> o.then(n)); break;
            case 9: compare("since(" + i + ")", () -> x.since(i), () -> o.since(i)); break;
            case 10: compare("ballast(" + i + ", " + n + ")", () -> x.ballast(i, n), () -> o.ballast(i, n)); break;
            default: compare("hinders(" + n + ")", () -> x.hinders(n), () -> o.hinders(n)); break;
        }
    }

    private void stepPlans(int which) {
        int i = someRider();
        int f = floor();
        int n = draw.nextInt(9) - 1;
        int those = bits((1 << x.count(1)) - 1) & (draw.nextBoolean() ? -1 : draw.nextInt());
        switch (which) {
            case 0: compare("all()", x::all, o::all); break;
            case 1: compare("one(" + i + ")", () -> x.one(i), () -> o.one(i)); break;
            case 2: compare("gather(" + f + ", " + those + ")", () -> x.gather(f, those), () -> o.gather(f, those)); break;
            case 3: compare("states(" + n + ")", () -> x.states(n), () -> o.states(n)); break;
            default: compare("stuck()", x::stuck, o::stuck); break;
        }
    }

    private void stepSeen(int which) {
        int i = someRider();
        int f = floor();
        int to = floor();
        int those = bits((1 << x.count(1)) - 1);
        switch (which) {
            case 0:
            case 1:
            case 2: compare("saw(" + f + ", " + those + ", " + to + ")", () -> x.saw(f, those, to), () -> o.saw(f, those, to)); break;
            case 3: compare("forget()", x::forget, o::forget); break;
            case 4: compare("believed()", x::believed, o::believed); break;
            case 5: compare("fits(" + i + ")", () -> x.fits(i), () -> o.fits(i)); break;
            case 6: compare("lies()", x::lies, o::lies); break;
            default: compare("truly(" + f + ")", () -> x.truly(f), () -> o.truly(f)); break;
        }
    }

    private void stepOdds(int which) {
        int f = floor();
        switch (which) {
            case 0: compare("odds(" + f + ")", () -> x.odds(f), () -> o.odds(f)); break;
            case 1: compare("likely()", x::likely, o::likely); break;
            default: compare("split()", x::split, o::split); break;
        }
    }

    private void stepKept(int which) {
        int i = draw.nextInt(6) == 0 ? draw.nextInt(8) - 3 : draw.nextInt(3);
        if (which < 2) {
            compare("keep(" + i + ")", () -> x.keep(i) ? 1 : 0, () -> o.keep(i) ? 1 : 0);
        } else {
            compare("again(" + i + ")", () -> x.again(i) ? 1 : 0, () -> o.again(i) ? 1 : 0);
        }
    }
}
