import java.util.NoSuchElementException;

/**
 * Whether a call changes anything: two objects are made alike, one of them gets the call, and then all that can be
 * seen of the two is compared, down to what undo() and again() bring back.
 */
final class Twins {
    interface Maker {
        LeastWished make();
    }

    interface Act {
        void on(LeastWished x);
    }

    private Twins() {
    }

    /** One is at home (a), one in (b), one stands at the lift (e), two elsewhere; all kinds of things are told. */
    static LeastWished full() {
        LeastWished x = Check.lift(5, "2>-@0!;3>1@0!;4>-@0;2>2@3;0>1@0!");
        Check.law(x, "w*3+s");
        x.keep(0);
        x.ride();
        x.leave(4);
        x.keep(2);
        x.dog(3);
        x.set(2, 1, 7);
        x.saw(0, 2, 2);
        x.saw(2, 18, 0);
        x.goes(2);
        Check.text(x, "n+f*2");
        return x;
    }

    /** The same with a law that asks for the rides. */
    static LeastWished fullByRides() {
        LeastWished x = full();
        Check.law(x, "w*3+s+0*r");
        Check.text(x, "n+f*2");
        return x;
    }

    /** The call changes nothing at all. */
    static void nothing(Check check, String what, Maker maker, Act call) {
        LeastWished x = maker.make();
        quietly(call, x);
        check.same(what, rowAndAllOf(x), rowAndAllOf(maker.make()));
    }

    /** The call changes nothing but the row. */
    static void nothingButTheRow(Check check, String what, Maker maker, Act call) {
        LeastWished x = maker.make();
        quietly(call, x);
        check.same(what, seenOf(x), seenOf(maker.make()));
    }

    /** The call changes nothing but the text, which is empty then. */
    static void nothingButTheText(Check check, String what, Maker maker, Act call) {
        LeastWished x = maker.make();
        quietly(call, x);
        LeastWished twin = maker.make();
        twin.end(0);
        check.same(what, rowAndAllOf(x), rowAndAllOf(twin));
    }

    private static String rowAndAllOf(LeastWished x) {
        return row(x) + seenOf(x);
    }

    private static void quietly(Act call, LeastWished x) {
        try {
            call.on(x);
        } catch (NoSuchElementException e) {
            // a call that is refused so; whether it has to be is checked elsewhere
        }
    }

    private static String row(LeastWished x) {
        return Check.rowOf(x).toString();
    }

    private static String seenOf(LeastWished x) {
        StringBuilder all = new StringBuilder(now(x));
        for (int f = 0; f < x.count(0); f++) {
            all.append(" worth ").append(x.worthOf(f)).append(" truly ").append(x.truly(f));
        }
        for (int i = 0; i < x.count(1); i++) {
            all.append(" fits ").append(x.fits(i));
        }
        all.append(" stuck ").append(x.stuck());
        for (int i = 0; i < 3; i++) {
            all.append("\n  undone ").append(x.undo()).append(now(x));
        }
        for (int i = 0; i < 3; i++) {
            all.append("\n  again ").append(x.again(i)).append(now(x));
        }
        all.append("\n  text ").append(x.law()).append(" worth ").append(x.worthOf(1)).append(" seen ").append(x.forget());
        return all.toString();
    }

    private static String now(LeastWished x) {
        StringBuilder all = new StringBuilder();
        for (int what = 0; what < 12; what++) {
            all.append(what == 10 ? "" : " " + x.count(what));
        }
        for (int i = 0; i < x.count(1); i++) {
            all.append(" (");
            for (int what = 0; what < 6; what++) {
                all.append(x.of(i, what)).append(what < 5 ? " " : ")");
            }
        }
        return all.toString();
    }
}
