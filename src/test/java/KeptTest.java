/** Promises 44 to 47: kept. */
public final class KeptTest {
    private static final Check CHECK = new Check("KeptTest");

    public static void main(String[] args) {
        promise44Keep();
        promise45Again();
        promise45Refused();
        promise46Count();
        promise47Row();
        CHECK.end();
    }

    private static void promise44Keep() {
        LeastWished x = Check.lift(5, "3>1@0!");
        for (int i = 0; i < 3; i++) {
            CHECK.due("keep(" + i + ")", x.keep(i), true);
        }
        for (int i : new int[] {-1, 3, Integer.MIN_VALUE, Integer.MAX_VALUE}) {
            CHECK.due("keep(" + i + ")", x.keep(i), false);
        }
        CHECK.due("nothing to undo", x.count(8), 0);
    }

    private static void promise45Again() {
        LeastWished x = Check.lift(5, "3>1@0!;1>3@0!;4>-@0");
        x.keep(0);
        x.ride();
        x.leave(1);
        x.set(1, 0, 4);
        x.keep(2);
        x.rides(5);
        x.set(1, 0, -1);
        x.set(0, 0, 0);
        x.set(2, 0, 3);
        CHECK.due("again(2)", x.again(2), true);
        CHECK.due("the lift", x.count(2), 2);
        CHECK.due("rides", x.count(3), 1);
        CHECK.due("who is in", x.count(4), 1);
        CHECK.due("who stands", x.count(5), 2);
        CHECK.due("wish", x.of(0, 1), 4);
        CHECK.due("rides of one", x.of(0, 5), 1);
        CHECK.due("home is as it was told since", x.of(0, 0), 0);
        CHECK.due("truth is as it was told since", x.of(0, 2), 3);
        CHECK.due("nothing to undo", x.undo(), -1);
        CHECK.due("again(0)", x.again(0), true);
        CHECK.due("rides", x.count(3), 0);
        CHECK.due("who is in", x.count(4), 3);
        CHECK.due("wish", x.of(0, 1), 1);
        x.rides(3);
        CHECK.due("again(0) once more", x.again(0), true);
        CHECK.due("rides", x.count(3), 0);
        x.ride();
        x.keep(0);
        x.ride();
        x.again(0);
        CHECK.due("what was kept last", x.count(3), 1);
        x.undo();
        CHECK.due("undo can't go behind it", x.count(3), 1);
    }

    private static void promise45Refused() {
        LeastWished x = Check.lift(5, "3>1@0!");
        CHECK.due("nothing kept", x.again(0), false);
        CHECK.due("again(-1)", x.again(-1), false);
        CHECK.due("again(3)", x.again(3), false);
        x.keep(0);
        x.keep(1);
        Check.house(x, "");
        Check.house(x, "9");
        x.crowd(1, 1);
        x.floors(1);
        x.ride();
        CHECK.due("nobody came", x.again(0), true);
        Check.house(x, "1>1@1");
        CHECK.due("one came", x.again(0), false);
        CHECK.due("one came", x.again(1), false);
        x.keep(1);
        CHECK.due("kept anew", x.again(1), true);
        CHECK.due("but not the other one", x.again(0), false);
        x.crowd(1, 3);
        CHECK.due("a crowd came", x.again(1), false);
        x.keep(1);
        x.floors(5);
        CHECK.due("floors were told", x.again(1), false);
    }

    private static void promise46Count() {
        LeastWished x = Check.lift(5, "3>1@0!;1>3@0!;4>-@0;1>1@2");
        x.dog(3);
        x.saw(0, 3, 1);
        x.saw(0, 3, 2);
        x.goes(0);
        x.sign(0);
        int[] due = {5, 4, 0, 0, 3, 4, 0, 3, 0, 2, 5, 4};
        for (int what = 0; what < due.length; what++) {
            CHECK.due("count(" + what + ")", x.count(what), due[what]);
        }
        x.leave(0);
        x.ride();
        due = new int[] {5, 4, 1, 1, 0, 0, 2, 3, 2, 2, 1, 4};
        for (int what = 0; what < due.length; what++) {
            CHECK.due("then count(" + what + ")", x.count(what), due[what]);
        }
        for (int what : new int[] {-1, 12, Integer.MIN_VALUE, Integer.MAX_VALUE}) {
            CHECK.due("count(" + what + ")", x.count(what), -100);
        }
    }

    private static void promise47Row() {
        LeastWished x = Check.lift(5, "3>1@0!");
        CHECK.none("row(0) of none", () -> x.row(0));
        x.goes(1);
        CHECK.due("row(1)", x.row(1), 1);
        CHECK.due("row(4)", x.row(4), 0);
        CHECK.none("row(5)", () -> x.row(5));
        CHECK.none("row(-1)", () -> x.row(-1));
        CHECK.none("row(least)", () -> x.row(Integer.MIN_VALUE));
        x.stop();
        x.enter(0);
        x.leave(0);
        x.undo();
        x.keep(0);
        x.again(0);
        x.saw(0, 1, 1);
        x.fits(0);
        x.truly(1);
        x.since(0);
        x.ballast(0, 3);
        x.gather(1, 1);
        x.stuck();
        x.forget();
        x.crowd(1, 1);
        x.sheet(4, 0, 0, 0);
        x.worthOf(1);
        x.floors(5);
        CHECK.due("calls that tell none leave it", x.count(10), 5);
        CHECK.due("row(1)", x.row(1), 1);
        x.rides(0);
        CHECK.due("a shorter one", x.count(10), 2);
        CHECK.none("row(2)", () -> x.row(2));
    }
}
