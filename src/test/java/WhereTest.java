/** Promises 18 to 29: where it goes; nothing changes. */
public final class WhereTest {
    private static final Check CHECK = new Check("WhereTest");
    private static final String THREE = "3>1@0!;1>3@0!;4>-@0";

    public static void main(String[] args) {
        promise18Stop();
        promise19Goes();
        promise20WorthOf();
        promise21Can();
        promise22Along();
        promise23Without();
        promise24Advise();
        promise25Rests();
        promise25NeverRests();
        promise26Then();
        promise27Since();
        promise28Ballast();
        promise29Hinders();
        nothingChanges();
        CHECK.end();
    }

    private static void promise18Stop() {
        LeastWished x = Check.lift(5, THREE);
        CHECK.due("stop()", x.stop(), 2);
        CHECK.due("it is not gone to", x.count(2) + x.count(3), 0);
        x.dog(4);
        Check.day(x, "r6");
        CHECK.due("on the seventh", x.stop(), 4);
        x.dog(x.count(2));
        CHECK.due("the dog where the lift is", x.stop(), 2);
        x.dog(-1);
        CHECK.due("no dog", x.stop(), 2);
        x.dog(4);
        x.ride();
        x.dog(0);
        CHECK.due("on the eighth", x.stop(), 2);
        LeastWished y = Check.lift(4, "1>1@0;2>2@2");
        Check.law(y, "-s");
        CHECK.due("where one stands", y.stop(), 2);
    }

    private static void promise19Goes() {
        LeastWished x = Check.lift(3, "1>1@0!;1>1@0;2>2@2");
        Check.law(x, "s");
        CHECK.due("goes(1)", x.goes(1), 1);
        CHECK.row("goes(1)", x, 1, 0, 1);
        CHECK.due("goes(0)", x.goes(0), 1);
        CHECK.row("goes(0)", x, 2, 0, 1);
        CHECK.due("goes(4)", x.goes(4), -2);
        CHECK.due("goes(8)", x.goes(8), -2);
        CHECK.due("goes(-1)", x.goes(-1), -2);
        CHECK.row("what went wrong tells no row", x, 2, 0, 1);
        CHECK.due("goes(3)", x.goes(3), 1);
        CHECK.row("goes(3)", x, 0, 0, 1);
        Check.law(x, "w*10+n");
        CHECK.due("goes(3)", x.goes(3), 2);
        CHECK.row("goes(3)", x, 2, 22, 2);
        Check.law(x, "f");
        x.dog(2);
        x.ride();
        Check.day(x, "r5");
        CHECK.due("the dog decides", x.goes(0), 2);
        CHECK.row("the law all the same", x, 0, 1, 2);
        LeastWished y = Check.lift(3, "2>1@0;2>2@0");
        y.dog(2);
        Check.day(y, "r6");
        CHECK.due("the dog decides", y.goes(2), 2);
        CHECK.row("the law if just those were in", y, 0, 0, 1);
    }

    private static void promise20WorthOf() {
        LeastWished x = Check.lift(5, THREE);
        Check.law(x, "w*100+s*10+f");
        int[] due = {10, 101, 2, 103, 4};
        for (int f = 0; f < 5; f++) {
            CHECK.due("worthOf(" + f + ")", x.worthOf(f), due[f]);
        }
        CHECK.none("worthOf(5)", () -> x.worthOf(5));
        CHECK.none("worthOf(-1)", () -> x.worthOf(-1));
        CHECK.none("worthOf(least)", () -> x.worthOf(Integer.MIN_VALUE));
    }

    private static void promise21Can() {
        LeastWished x = Check.lift(4, "0>1@0;0>2@0;0>3@0;0>1@2");
        CHECK.due("can()", x.can(), 14);
        CHECK.row("can()", x, 0, 5, 2, 1);
        x.enter(1);
        CHECK.due("can() counts those in, too", x.can(), 14);
        CHECK.row("can() counts those in, too", x, 0, 5, 2, 1);
        LeastWished y = Check.lift(9, "0>1@0;0>1@0;0>1@0;0>1@0;0>1@0;0>1@0;0>1@0;0>1@0;0>1@0;0>1@0");
        CHECK.due("can() of ten", y.can(), 6);
        CHECK.row("can() of ten", y, 0, 1, 1023, 0, 0, 0, 0, 0, 0);
        y.ride();
        CHECK.due("can() from 1", y.can(), 1);
        CHECK.row("can() from 1", y, 1, 0, 0, 0, 0, 0, 0, 0, 0);
        Check.day(y, "r5");
        y.dog(5);
        CHECK.due("can() of the dog", y.can(), 32);
        CHECK.row("can() of the dog", y, 0, 0, 0, 0, 0, 1024, 0, 0, 0);
    }

    private static void promise22Along() {
        LeastWished x = Check.lift(4, "0>1@0;0>2@0;0>3@0;0>1@2");
        CHECK.due("along(1)", x.along(1), 0);
        CHECK.row("along(1)", x, 0);
        CHECK.due("along(2)", x.along(2), 1);
        CHECK.row("along(2)", x, 1);
        CHECK.due("along(3)", x.along(3), 2);
        CHECK.row("along(3)", x, 3);
        CHECK.due("along(0)", x.along(0), -2);
        CHECK.due("along(4)", x.along(4), -1);
        CHECK.due("along(-1)", x.along(-1), -1);
        CHECK.row("no row is told", x, 3);
        x.enter(0);
        CHECK.due("one is in: along(1)", x.along(1), 2);
        CHECK.row("one is in: along(1)", x, 6);
        CHECK.due("one is in: along(2)", x.along(2), 0);
        CHECK.row("one is in: along(2)", x, 0);
        CHECK.due("one is in: along(3)", x.along(3), 1);
        CHECK.row("one is in: along(3)", x, 2);
        LeastWished y = Check.lift(3, "0>-@0;0>-@0;0>1@0;0>1@0");
        Check.law(y, "(n>1)*(f=1)+w");
        CHECK.due("the fewest, not the least", y.along(2), 1);
        CHECK.row("of as few the least", y, 4);
        LeastWished z = Check.lift(3, "0>-@0;0>-@0;0>-@0;0>-@0;0>-@0;0>-@0;0>-@0;0>-@0;0>-@0;0>-@0");
        Check.law(z, "(f=1)*(n>9)");
        CHECK.due("all ten", z.along(2), 10);
        CHECK.row("all ten", z, 1023);
    }

    private static void promise23Without() {
        LeastWished x = Check.lift(4, "0>1@0!;0>2@0!;0>3@0!;0>1@2");
        CHECK.due("without(1)", x.without(1), 0);
        CHECK.row("without(1)", x, 0);
        CHECK.due("without(2)", x.without(2), 1);
        CHECK.row("without(2)", x, 2);
        CHECK.due("without(3)", x.without(3), 1);
        CHECK.row("without(3)", x, 4);
        CHECK.due("without(0)", x.without(0), -2);
        CHECK.due("without(4)", x.without(4), -1);
        CHECK.due("without(-1)", x.without(-1), -1);
        CHECK.row("no row is told", x, 4);
        x.leave(0);
        CHECK.due("one stands: without(1)", x.without(1), 0);
        CHECK.due("one stands: without(2)", x.without(2), -2);
    }

    private static void advises(String law, int floors, String house, int wish, int distance) {
        LeastWished x = Check.lift(floors, house);
        Check.law(x, law);
        CHECK.due("advise(0) of " + house, x.advise(0), wish);
        CHECK.row("advise(0) of " + house, x, distance);
    }

    private static void promise24Advise() {
        advises("w", 5, "4>4@0!", 1, 2);
        advises("w", 5, "1>2@0!", 2, 0);
        advises("w", 5, "1>1@0!", -1, 0);
        advises("-w", 5, "3>1@0!", 3, 0);
        advises("-(f=4)-w*2+(f=2)*9", 5, "2>4@0!", 1, 1);
        advises("f", 5, "0>3@0!", 3, 1);
        LeastWished x = Check.lift(5, THREE);
        CHECK.due("advise(0)", x.advise(0), 1);
        CHECK.row("advise(0)", x, 1);
        CHECK.due("one that stands", x.advise(2), -2);
        CHECK.due("none such", x.advise(3), -2);
        CHECK.due("none such", x.advise(-1), -2);
        CHECK.due("none such", x.advise(33), -2);
        CHECK.row("no row is told", x, 1);
        x.dog(4);
        Check.day(x, "r6");
        x.set(1, 1, 2);
        CHECK.due("the dog decides: its own", x.advise(1), 2);
        CHECK.row("the dog decides: its own", x, 3);
    }

    private static void promise25Rests() {
        LeastWished x = Check.lift(5, "1>1@0!;2>0@0!;4>4@0");
        CHECK.due("rests(0)", x.rests(0), 0);
        CHECK.row("rests(0)", x, 0, 2, 1, 0, 4);
        CHECK.due("rests(1)", x.rests(1), 1);
        CHECK.row("rests(1)", x, 0, 2, -1, 1, 4);
        CHECK.due("rests(2)", x.rests(2), 2);
        CHECK.row("rests(2)", x, 1, 2, -1, 1, 4);
        CHECK.due("rests(30)", x.rests(30), 2);
        CHECK.row("rests(30)", x, 1, 2, -1, 1, 4);
        CHECK.due("rests(31)", x.rests(31), -1);
        CHECK.due("rests(-1)", x.rests(-1), -1);
        CHECK.row("no row is told", x, 1, 2, -1, 1, 4);
        CHECK.due("wishes are as they were", x.of(0, 1) * 10 + x.of(1, 1), 10);
    }

    private static void promise25NeverRests() {
        LeastWished x = Check.lift(3, "1>-@0!;2>-@0!");
        Check.law(x, "(f=1)*(w=1)");
        CHECK.due("never: rests(1)", x.rests(1), 1);
        CHECK.row("never: rests(1)", x, 0, 2, -1, 1);
        CHECK.due("never: rests(30)", x.rests(30), 30);
        CHECK.row("never: rests(30)", x, 0, 2, 1, -1);
    }

    private static void promise26Then() {
        LeastWished x = Check.lift(5, "1>3@0!;2>0@0!;1>1@0");
        CHECK.due("then(0)", x.then(0), 0);
        CHECK.row("then(0)", x);
        CHECK.due("then(3)", x.then(3), 2);
        CHECK.row("then(3)", x, 1, 2, 1);
        CHECK.due("then(13)", x.then(13), -1);
        CHECK.due("then(-1)", x.then(-1), -1);
        CHECK.row("no row is told", x, 1, 2, 1);
        x.dog(4);
        CHECK.due("then(12)", x.then(12), 2);
        CHECK.row("then(12)", x, 1, 2, 1, 0, 1, 0, 4, 3, 2, 1, 0, 1);
    }

    private static void promise27Since() {
        LeastWished x = Check.lift(9, "4>-@0!;8>-@0!;3>-@0;0>-@0!");
        Check.law(x, "d");
        CHECK.due("never", x.since(0), -2);
        CHECK.due("and back", x.since(3), 2);
        x.dog(8);
        CHECK.due("by the dog, then down", x.since(0), 11);
        CHECK.due("by the dog", x.since(1), 7);
        CHECK.due("one that stands", x.since(2), -1);
        CHECK.due("none such", x.since(4), -1);
        CHECK.due("none such", x.since(-1), -1);
        CHECK.due("none such", x.since(32), -1);
        Check.law(x, "d+0*r");
        CHECK.due("an r in the law", x.since(0), -4);
        CHECK.due("an r in the law, none such", x.since(2), -1);
        LeastWished y = Check.lift(5, "1>3@0!;2>0@0!");
        CHECK.due("the first", y.since(0), 1);
        CHECK.due("the second", y.since(1), 2);
    }

    private static void promise28Ballast() {
        LeastWished x = Check.lift(5, THREE);
        CHECK.due("ballast(0, 3)", x.ballast(0, 3), -1);
        CHECK.due("ballast(1, 3)", x.ballast(1, 3), -1);
        CHECK.due("ballast(1, 1)", x.ballast(1, 1), 0);
        CHECK.due("ballast(0, 0)", x.ballast(0, 0), 0);
        CHECK.due("ballast(0, 40)", x.ballast(0, 40), -1);
        CHECK.none("ballast(0, 41)", () -> x.ballast(0, 41));
        CHECK.none("ballast(0, -1)", () -> x.ballast(0, -1));
        CHECK.none("ballast(2, 1)", () -> x.ballast(2, 1));
        CHECK.none("ballast(3, 1)", () -> x.ballast(3, 1));
        CHECK.none("ballast(-1, 1)", () -> x.ballast(-1, 1));
        LeastWished y = Check.lift(5, "2>1@0!;2>-@0!");
        CHECK.due("others alone count", y.ballast(0, 1), 1);
        LeastWished z = Check.lift(5, "4>-@0!;2>-@0!");
        Check.law(z, "(f=2)*(s>0)-(f=2)*(n>1)");
        CHECK.due("it stands where it was", z.ballast(0, 1), 1);
    }

    private static void promise29Hinders() {
        LeastWished x = Check.lift(5, THREE);
        CHECK.due("hinders(3)", x.hinders(3), 0);
        CHECK.row("hinders(3)", x, 1);
        CHECK.due("hinders(0)", x.hinders(0), 0);
        CHECK.row("hinders(0)", x, 0);
        CHECK.due("hinders(40)", x.hinders(40), 0);
        CHECK.due("hinders(41)", x.hinders(41), -1);
        CHECK.due("hinders(-1)", x.hinders(-1), -1);
        CHECK.row("no row is told", x, 1);
        LeastWished y = Check.lift(5, "1>3@0!;3>1@0!");
        CHECK.due("the second", y.hinders(1), 1);
        CHECK.row("the second", y, 1);
        LeastWished z = Check.lift(5, "1>3@0");
        CHECK.due("nobody is in", z.hinders(3), -2);
        CHECK.due("nobody is in, another n", z.hinders(41), -1);
    }

    private static void nothingChanges() {
        LeastWished x = Check.lift(5, THREE);
        x.stop();
        x.goes(7);
        x.worthOf(1);
        x.can();
        x.along(1);
        x.without(1);
        x.advise(1);
        x.rests(9);
        x.then(9);
        x.since(1);
        x.ballast(1, 9);
        x.hinders(9);
        CHECK.due("who is in", x.count(4), 3);
        CHECK.due("the lift, rides, undone", x.count(2) + x.count(3) + x.count(8), 0);
        CHECK.due("wishes", x.of(0, 1) * 10 + x.of(1, 1), 13);
        CHECK.due("rides of one", x.of(0, 5), 0);
    }
}
