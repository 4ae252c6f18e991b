/** Promises 30 to 34: plans. */
public final class PlansTest {
    private static final Check CHECK = new Check("PlansTest");
    private static final String EIGHT = "8>-@0;8>-@0;8>-@0;8>-@0;8>-@0;8>-@0;8>-@0;8>-@0";

    public static void main(String[] args) {
        promise30All();
        promise31One();
        promise32Gather();
        promise33States();
        promise34Stuck();
        tooMany();
        theThreeThousandth();
        lawWithRides();
        CHECK.end();
    }

    private static void promise30All() {
        LeastWished x = Check.lift(3, "1>-@0;2>0@0");
        CHECK.due("all()", x.all(), 2);
        CHECK.row("all()", x, 3, 2);
        x.enter(0);
        x.enter(1);
        CHECK.due("all() of those in", x.all(), 2);
        CHECK.row("all() of those in", x, 3, 2);
        x.ride();
        CHECK.due("all() then", x.all(), 1);
        CHECK.row("all() then", x, 2);
        x.ride();
        CHECK.due("all() are at home", x.all(), 0);
        CHECK.row("all() are at home", x);
        LeastWished y = Check.lift(3, "1>-@0;2>-@0");
        y.stop();
        CHECK.due("there is none", y.all(), -2);
        CHECK.due("no row is told", y.count(10), 0);
        LeastWished z = Check.lift(9, EIGHT);
        Check.law(z, "d");
        z.dog(8);
        CHECK.due("by the dog", z.all(), 7);
        CHECK.row("by the dog", z, 0, 0, 0, 0, 0, 0, 255);
        CHECK.due("nothing changes", z.count(2) + z.count(3) + z.count(4) + z.count(8), 0);
        CHECK.due("nobody", new LeastWished().all(), 0);
    }

    private static void promise31One() {
        LeastWished x = Check.lift(3, "1>-@0;2>0@0");
        CHECK.due("one(0)", x.one(0), 1);
        CHECK.row("one(0)", x, 1);
        CHECK.due("one(1)", x.one(1), 2);
        CHECK.row("one(1)", x, 2, 2);
        CHECK.due("one(2)", x.one(2), -1);
        CHECK.due("one(-1)", x.one(-1), -1);
        CHECK.due("one(32)", x.one(32), -1);
        x.set(1, 1, -1);
        CHECK.due("there is none", x.one(1), -2);
        CHECK.row("no row is told", x, 2, 2);
        x.enter(0);
        x.ride();
        CHECK.due("it is at home", x.one(0), 0);
        CHECK.row("it is at home", x);
        LeastWished y = Check.lift(9, "4>-@0");
        Check.law(y, "d");
        CHECK.due("no dog", y.one(0), -2);
        y.dog(8);
        CHECK.due("eleven rides", y.one(0), 11);
        CHECK.row("the first ten", y, 0, 0, 0, 0, 0, 0, 1, 1, 1, 1);
        Check.day(y, "r6");
        CHECK.due("five are left", y.one(0), 5);
        CHECK.row("five are left", y, 1, 1, 1, 1, 1);
    }

    private static void promise32Gather() {
        LeastWished x = Check.lift(3, "1>-@0;2>0@0");
        x.stop();
        int[][] due = {{0, 3, 0}, {1, 0, 1}, {1, 2, 1}, {1, 1, -2}, {0, 1, 2}, {2, 0, 2}, {2, 2, -2}, {0, 2, 2}, {0, 0, 2},
            {3, 0, -1}, {-1, 0, -1}, {0, 4, -1}, {0, -1, -1}, {9, 0, -1}};
        for (int[] d : due) {
            CHECK.due("gather(" + d[0] + ", " + d[1] + ")", x.gather(d[0], d[1]), d[2]);
        }
        CHECK.due("no row", x.count(10), 0);
        LeastWished y = Check.lift(3, "0>-@0;1>-@1");
        CHECK.due("one stands at home", y.gather(0, 1), 0);
        CHECK.due("one stands at home there", y.gather(1, 2), 1);
        CHECK.due("the other one, too", y.gather(1, 3), 1);
        CHECK.due("the other one comes to one that stayed", y.gather(0, 3), 2);
        y.enter(0);
        y.ride();
        CHECK.due("it comes home there", y.gather(0, 1), -2);
    }

    private static void promise33States() {
        LeastWished x = Check.lift(3, "1>-@0;2>0@0");
        CHECK.due("states(0)", x.states(0), 1);
        CHECK.row("states(0)", x, 0, 1);
        CHECK.due("states(1)", x.states(1), 5);
        CHECK.row("states(1)", x, 1, 3);
        CHECK.due("states(2)", x.states(2), 11);
        CHECK.row("states(2)", x, 3, 7);
        CHECK.due("states(7)", x.states(7), -1);
        CHECK.due("states(-1)", x.states(-1), -1);
        CHECK.row("no row is told", x, 3, 7);
        x.enter(0);
        x.ride();
        CHECK.due("one is at home", x.states(0), 1);
        CHECK.row("one is at home", x, 1, 2);
        LeastWished z = Check.lift(3, "1>-@0;2>0@0");
        z.one(0);
        CHECK.due("behind one(0)", z.states(2), 11);
        z.gather(1, 0);
        CHECK.due("behind gather(1, 0)", z.states(2), 11);
        z.one(0);
        CHECK.due("behind one(0)", z.stuck(), 0);
        LeastWished y = new LeastWished();
        CHECK.due("seven of nobody", y.states(6), 7);
        CHECK.row("seven of nobody", y, 0, 3);
    }

    private static void promise34Stuck() {
        LeastWished x = Check.lift(3, "1>-@0;2>-@0;2>-@2");
        CHECK.due("two are stuck", x.stuck(), 6);
        x.set(1, 1, 0);
        CHECK.due("one that stands at home is stuck still", x.stuck(), 4);
        x.set(1, 2, 1);
        CHECK.due("and no more by that wish", x.stuck(), 0);
        LeastWished y = Check.lift(3, "1>-@0!");
        y.ride();
        CHECK.due("one is at home", y.stuck(), 0);
        CHECK.due("nobody", new LeastWished().stuck(), 0);
        LeastWished z = Check.lift(9, "8>-@0;8>-@0;8>-@0;8>-@0;8>-@0;8>-@0;8>-@0");
        Check.law(z, "d");
        CHECK.due("seven, 1792 states", z.stuck(), 127);
        CHECK.due("seven in six rides", z.states(6), 769);
        CHECK.due("there is no plan", z.all(), -2);
    }

    private static void tooMany() {
        LeastWished x = Check.lift(9, EIGHT);
        Check.law(x, "d");
        x.stop();
        CHECK.due("eight, 3584 states: stuck()", x.stuck(), -3);
        CHECK.due("eight: all()", x.all(), -3);
        CHECK.due("eight: one(0)", x.one(0), -3);
        CHECK.due("eight: gather(8, 0)", x.gather(8, 0), -3);
        CHECK.due("eight: gather(1, 255)", x.gather(1, 255), 1);
        CHECK.due("eight: states(6)", x.states(6), 1 + 6 * 256);
        CHECK.row("eight: states(6)", x, 0, 3);
        Check.house(x, "8>-@0");
        x.dog(8);
        CHECK.due("nine: the dog comes too late", x.one(0), -3);
        x.dog(-1);
        Check.house(x, "8>-@0");
        CHECK.due("ten: states(2)", x.states(2), 2049);
        CHECK.due("ten: states(3)", x.states(3), -3);
        CHECK.row("ten: the row of states(2)", x, 0, 3);
    }

    /** Ten on floor 0, the dog in three rides: gather(8, u) is found as number 2050 + u. */
    private static void theThreeThousandth() {
        LeastWished x = Check.lift(9, EIGHT.replace('8', '7') + ";7>-@0;7>-@0");
        Check.law(x, "d");
        x.dog(8);
        Check.day(x, "r4");
        CHECK.due("the first of them", x.gather(8, 0), 3);
        CHECK.due("the 3000th", x.gather(8, 950), 3);
        CHECK.due("the 3001st", x.gather(8, 951), -3);
        CHECK.due("the last of them", x.gather(8, 1023), -3);
    }

    private static void lawWithRides() {
        LeastWished x = Check.lift(3, "1>-@0;2>0@0");
        Check.law(x, "w+0*r");
        x.stop();
        CHECK.due("all()", x.all(), -4);
        CHECK.due("one(0)", x.one(0), -4);
        CHECK.due("one(2)", x.one(2), -1);
        CHECK.due("gather(0, 3)", x.gather(0, 3), -4);
        CHECK.due("gather(3, 0)", x.gather(3, 0), -1);
        CHECK.due("gather(0, 4)", x.gather(0, 4), -1);
        CHECK.due("states(0)", x.states(0), -4);
        CHECK.due("states(7)", x.states(7), -1);
        CHECK.due("stuck()", x.stuck(), -4);
        CHECK.due("no row", x.count(10), 0);
        Check.law(x, "w");
        CHECK.due("without an r", x.all(), 2);
    }
}
