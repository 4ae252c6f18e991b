/** Boundary cases of the terms (the law's own are in LawBounds). */
final class TermsBounds {
    private static final Check CHECK = BoundaryTest.CHECK;
    private static final String ONE = "Terms 1";
    private static final String TWO = "Terms 2";
    static final String TEN = "1>-@0;1>-@0;1>-@0;1>-@0;1>-@0;1>-@0;1>-@0;1>-@0;1>-@0;1>-@0";

    private TermsBounds() {
    }

    static void hold() {
        calls();
        floorsAndLift();
        riders();
        whereOneIs();
        houseText();
        stop();
        dog();
        ride();
        row();
        fractions();
        plans();
        statesInTheirOrder();
        tooMany();
        lawWithRides();
        refused();
        refusedByException();
        textIsEmptied();
    }

    private static void calls() {
        CHECK.says("What it is",
                "An object is used for at most 512 calls after it has been made; what later calls answer is free.");
        LeastWished x = new LeastWished();
        for (int k = 1; k <= 510; k++) {
            x.ride();
        }
        CHECK.due("call 511: count(3)", x.count(3), 510);
        CHECK.due("call 512: undo()", x.undo(), 19);
    }

    private static void floorsAndLift() {
        CHECK.says(ONE, "FLOORS 0 .. (2 to 9; at first 2).");
        LeastWished x = new LeastWished();
        CHECK.due("at first", x.count(0), 2);
        CHECK.due("floors(1)", x.floors(1), false);
        CHECK.due("floors(10)", x.floors(10), false);
        CHECK.due("still", x.count(0), 2);
        CHECK.due("floor 1 is the highest", x.worthOf(1), 0);
        CHECK.none("worthOf(2)", () -> x.worthOf(2));
        CHECK.none("worthOf(-1)", () -> x.worthOf(-1));
        CHECK.due("floors(9)", x.floors(9), true);
        CHECK.due("floor 8 is the highest", x.worthOf(8), 0);
        CHECK.none("worthOf(9)", () -> x.worthOf(9));
        CHECK.due("floors(2)", x.floors(2), true);
        CHECK.due("two again", x.count(0), 2);
        CHECK.says(ONE, "THE LIFT is on a FLOOR (at first 0).");
        LeastWished y = new LeastWished();
        CHECK.due("at first", y.count(2), 0);
        y.floors(9);
        Check.law(y, "-f");
        CHECK.due("on the highest", y.ride(), 8);
        CHECK.due("there it is", y.count(2), 8);
    }

    private static void riders() {
        CHECK.says(ONE, "RIDERS 0 .. (at most 10; written a .. j)");
        LeastWished x = Check.lift(3, TEN);
        CHECK.due("ten", x.count(1), 10);
        CHECK.due("an eleventh", Check.house(x, "1>-@0"), -1);
        CHECK.due("eleven drawn", x.crowd(1, 11), -1);
        CHECK.due("still ten", x.count(1), 10);
        CHECK.due("the tenth", x.of(9, 0), 1);
        CHECK.none("the eleventh", () -> x.of(10, 0));
        CHECK.due("a is the first, j the tenth", Check.day(x, "iaj"), 1);
        CHECK.due("these are in", x.count(4), 1 + 512);
        CHECK.due("k is none", Check.day(x, "oak"), -3);
        CHECK.says(ONE, "a HOME (a FLOOR), a WISH it tells (a FLOOR, or none), TRUTH 0 .. 10 (tenths; at first 10)");
        CHECK.due("truth at first", x.of(0, 2), 10);
        CHECK.due("drawn ones, too", drawn().of(4, 2), 10);
        int[][] set = {{0, -1, 0}, {0, 0, 1}, {0, 2, 1}, {0, 3, 0}, {1, -2, 0}, {1, -1, 1}, {1, 0, 1}, {1, 2, 1}, {1, 3, 0},
            {2, -1, 0}, {2, 0, 1}, {2, 10, 1}, {2, 11, 0}};
        for (int[] s : set) {
            CHECK.due("set(" + s[0] + ", 0, " + s[1] + ")", x.set(s[0], 0, s[1]), s[2] == 1);
        }
    }

    private static LeastWished drawn() {
        LeastWished x = new LeastWished();
        x.crowd(3, 5);
        return x;
    }

    private static void whereOneIs() {
        CHECK.says(ONE, "where it is: a FLOOR, on which it STANDS or, if THE LIFT is there, is IN; "
                + "or it is AT HOME (then on no FLOOR any more).");
        LeastWished x = Check.lift(3, "1>-@0!;1>-@1;1>-@0");
        x.ride();
        CHECK.due("one is at home", x.count(6), 1);
        CHECK.due("on no floor", x.of(0, 3), -1);
        CHECK.due("not in", x.of(0, 4), 0);
        CHECK.due("who stands there", x.count(5), 2);
        CHECK.due("it can't be in again", x.enter(0), false);
        CHECK.due("nor leave", x.leave(0), false);
        CHECK.due("nor be taken along", x.goes(1), -2);
        Check.law(x, "s");
        CHECK.due("nor does it stand there by the law", x.worthOf(1), 1);
        CHECK.due("one elsewhere can't be in", x.enter(2), false);
    }

    private static void houseText() {
        CHECK.says(ONE, "THE HOUSE is a text of at most 76 signs: LINES with ; between, each one of RIDERS more: HOME (a digit), >, "
                + "WISH (a digit, or - : none), @, the FLOOR where it STANDS (a digit), and perhaps ! "
                + "(it is IN; THE LIFT has to be there).");
        LeastWished x = new LeastWished();
        x.floors(9);
        String longest = TEN.replace("@0", "@0!").replace("1>-", "8>8");
        CHECK.due("the longest house, 69 signs", Check.house(x, longest), 10);
        CHECK.due("all are in", x.count(4), 1023);
        for (int i = 0; i < 10; i++) {
            CHECK.due("the highest home", x.of(i, 0), 8);
            CHECK.due("the highest wish", x.of(i, 1), 8);
        }
        LeastWished y = new LeastWished();
        CHECK.due("the shortest house", Check.house(y, "0>-@1"), 1);
        CHECK.due("one stands elsewhere", y.of(0, 3), 1);
        CHECK.due("it tells no wish", y.of(0, 1), -1);
        CHECK.due("in where the lift is not", Check.house(y, "0>-@1!"), -6);
        y.ride();
        CHECK.due("the lift is there now", Check.house(y, "0>-@1!"), 1);
        CHECK.due("in where it was", Check.house(y, "0>-@0!"), -6);
        CHECK.says(ONE, "(One whose HOME is where it is STANDS there all the same.)");
        LeastWished z = Check.lift(3, "0>1@0;0>-@0!;2>-@2");
        CHECK.due("none is at home", z.count(6), 0);
        CHECK.due("one stands", z.count(5), 1);
        CHECK.due("one is in", z.count(4), 2);
        CHECK.due("one stands elsewhere", z.of(2, 3), 2);
        z.set(0, 1, 2);
        z.ride();
        z.set(0, 1, 1);
        CHECK.due("one whose home becomes where it is, is in still", z.of(1, 4), 1);
    }

    private static int stopBy(int from, String law) {
        LeastWished x = new LeastWished();
        x.floors(5);
        Check.law(x, "0-9*(f=" + from + ")");
        if (from != 0) {
            x.ride();
        }
        Check.law(x, law);
        CHECK.due("the lift is on " + from, x.count(2), from);
        return x.stop();
    }

    private static void stop() {
        CHECK.says(ONE, "THE STOP, of FLOORS but that where THE LIFT is: the one with the least LAW; "
                + "of equal ones the nearest, then the lower one.");
        CHECK.due("the least of all is where the lift is", stopBy(2, "d*(f>2)+(d>0)"), 1);
        CHECK.due("where it is does not count", stopBy(0, "0-(d=0)*99"), 1);
        CHECK.due("nor on the highest", stopBy(4, "0-(d=0)*99"), 3);
        CHECK.due("the least, though far and high", stopBy(0, "0-(f=4)"), 4);
        CHECK.due("the least, though far and low", stopBy(4, "0-(f=0)"), 0);
        CHECK.due("of equal ones the nearest, though higher", stopBy(3, "(f=2)"), 4);
        CHECK.due("of as near ones the lower", stopBy(2, "0"), 1);
        CHECK.due("of as near ones, two away, the lower", stopBy(2, "d=1"), 0);
        CHECK.due("a lower one farther away does not count", stopBy(3, "(f=2)+(f=1)"), 4);
        LeastWished two = new LeastWished();
        CHECK.due("of two there is but one", two.stop(), 1);
        two.ride();
        CHECK.due("and the other one", two.stop(), 0);
    }

    private static void dog() {
        CHECK.says(ONE, "On each RIDE whose number (from 1 on) is divisible by 7 it is THE DOG's FLOOR instead, "
                + "if there is one (at first none) and THE LIFT is not there.");
        LeastWished x = new LeastWished();
        x.floors(9);
        CHECK.due("at first none", x.count(7), -1);
        Check.law(x, "d");
        for (int ride = 1; ride <= 6; ride++) {
            CHECK.due("no dog: ride " + ride, x.ride(), ride % 2);
        }
        CHECK.due("no dog: ride 7", x.stop(), 1);
        x.dog(8);
        CHECK.due("ride 7", x.ride(), 8);
        for (int ride = 8; ride <= 13; ride++) {
            CHECK.due("ride " + ride, x.ride(), 15 - ride);
        }
        CHECK.due("ride 14", x.ride(), 8);
        CHECK.due("ride 15", x.ride(), 7);
        LeastWished y = new LeastWished();
        y.floors(9);
        Check.law(y, "d");
        y.dog(1);
        CHECK.due("ride 1 is none of them", y.stop(), 1);
        y.dog(0);
        Check.day(y, "r6");
        CHECK.due("the lift is at the dog", y.count(2), 0);
        CHECK.due("so the law decides", y.ride(), 1);
        y.dog(4);
        CHECK.due("and ride 8 is none of them", y.stop(), 0);
    }

    private static void ride() {
        CHECK.says(ONE, "A RIDE: THE LIFT goes to THE STOP, with those IN; of them those whose HOME it is are AT HOME then, "
                + "all others stay IN.");
        LeastWished x = Check.lift(3, "1>-@0!;2>-@0!;1>-@0;1>-@1;0>-@0!");
        CHECK.due("the stop", x.ride(), 1);
        CHECK.due("at home is who was in and lives there", x.count(6), 1);
        CHECK.due("others stay in", x.count(4), 2 + 16);
        CHECK.due("one that stood stays", x.of(2, 3), 0);
        CHECK.due("one that stands there is not at home", x.of(3, 3), 1);
        CHECK.due("one whose home was left is in", x.of(4, 3), 1);
        CHECK.says(ONE, "RIDES: how many there were (at first 0).");
        CHECK.due("at first", new LeastWished().count(3), 0);
        CHECK.due("one", x.count(3), 1);
        x.rides(60);
        CHECK.due("sixty more", x.count(3), 61);
    }

    private static void row() {
        CHECK.says(TWO, "ROW: numbers told last by a call that says so.");
        LeastWished x = Check.lift(5, "3>1@0!");
        CHECK.due("none yet", x.count(10), 0);
        CHECK.none("none yet", () -> x.row(0));
        x.goes(1);
        CHECK.due("five", x.count(10), 5);
        x.stop();
        x.enter(0);
        x.count(3);
        CHECK.due("calls that say nothing of it leave it", x.count(10), 5);
        x.then(0);
        CHECK.due("one that tells no number empties it", x.count(10), 0);
        CHECK.says(TWO, "Sets of RIDERS, FLOORS are bits.");
        LeastWished y = Check.lift(9, TEN.replace("@0", "@0!"));
        CHECK.due("ten in", y.count(4), 1023);
        Check.law(y, "-f");
        CHECK.due("floor 8", y.can(), 256);
        y.ride();
        CHECK.due("floor 7", y.can(), 128);
        CHECK.says(TWO, "Rows are compared from the first number on.");
        LeastWished z = Check.lift(3, "0>-@0;0>1@0");
        z.saw(0, 3, 1);
        CHECK.told("a may wish 2, or b none: 1 is less than 2, though 2 is more than -1", z.lies(), 1, z, 1, 2);
    }

    private static void fractions() {
        CHECK.says(TWO, "Fractions are told in lowest terms, upper and lower number (0 by 1).");
        LeastWished x = Check.lift(3, "1>2@0!;1>2@0!");
        int[][] truths = {{10, 1, 1}, {9, 9, 10}, {8, 4, 5}, {5, 1, 2}, {4, 2, 5}, {1, 1, 10}, {0, 0, 1}};
        x.leave(1);
        for (int[] t : truths) {
            x.set(2, 0, t[0]);
            CHECK.told("truth " + t[0], x.odds(2), 0, x, t[1], t[2]);
        }
        CHECK.told("never", x.odds(0), 0, x, 0, 1);
    }

    private static void plans() {
        CHECK.says(TWO, "A PLAN: ahead of each RIDE those who are on THE LIFT's FLOOR (STAND or are IN) are IN, or STAND, "
                + "as is chosen anew.");
        LeastWished x = Check.lift(3, "1>-@0;2>1@0!");
        CHECK.told("one that stands is in, one that is in stands", x.one(0), 1, x, 1);
        CHECK.told("one that is in comes home as it is", x.one(1), 1, x, 2);
        LeastWished y = Check.lift(3, "1>-@0;2>0@0");
        CHECK.told("in, then the other one alone", y.all(), 2, y, 3, 2);
        LeastWished z = Check.lift(3, "1>-@1");
        CHECK.told("one elsewhere can't be in at once", z.one(0), 3, z, 0, 1, 1);
        CHECK.due("it can be taken to 0, where it stands or is in", z.gather(0, 1), 2);
    }

    private static void statesInTheirOrder() {
        CHECK.says(TWO, "Searches of PLANS find what can come (where each is, where THE LIFT is, "
                + "what is left of RIDES divided by 7) one by one, each once: as it is first;");
        LeastWished x = new LeastWished();
        CHECK.due("as it is", x.states(0), 1);
        CHECK.due("where the lift is", x.states(1), 2);
        CHECK.due("rides that are left", x.states(6), 7);
        Check.day(x, "r6");
        CHECK.due("rides that are left go round", x.states(6), 7);
        x.ride();
        CHECK.due("and again", x.states(6), 7);
        LeastWished y = Check.lift(3, "1>-@0;1>-@0!;1>-@2");
        CHECK.due("as it is, whether one stands or is in", y.states(0), 1);
        CHECK.due("each once", y.states(1), 1 + 4);
        CHECK.due("0 rides", y.gather(0, 3), 0);
        CHECK.says(TWO, "then from each, as they were found, by each set of those on THE LIFT's FLOOR that can be IN, rising.");
        LeastWished z = Check.lift(9, TEN.replace("1>", "7>"));
        Check.law(z, "d");
        z.dog(8);
        Check.day(z, "r4");
        // One as it is, 1024 on floor 1, 1024 on floor 0; then by the set u from 0, as it was found first.
        CHECK.due("the first of the third ride", z.gather(8, 0), 3);
        CHECK.due("number 2050 + 949", z.gather(8, 949), 3);
        CHECK.due("number 2050 + 950, the 3000th", z.gather(8, 950), 3);
        CHECK.due("number 2050 + 951, the 3001st", z.gather(8, 951), -3);
    }

    private static LeastWished planned(int floors, String house, String law, int dog) {
        LeastWished x = Check.lift(floors, house);
        Check.law(x, law);
        x.dog(dog);
        return x;
    }

    private static void tooMany() {
        CHECK.says(TWO, "-3: of the first 3000 found none is as is asked, and there are more "
                + "(of states() and stuck(): there are more than 3000)");
        String just = "2>2@0;0>1@1;1>0@1;0>2@2;0>-@0";
        CHECK.due("states of this house", new PlanCount(3, just, 0, (w, s) -> w).within(1000), 3000);
        LeastWished x = planned(3, just, "w", 0);
        CHECK.due("just 3000: stuck()", x.stuck(), 1);
        CHECK.due("just 3000: one that is stuck", x.one(0), -2);
        CHECK.due("just 3000: all()", x.all(), -2);
        CHECK.due("just 3000: gather() what can't be", x.gather(2, 31), -2);
        String more = "2>-@0;2>0@0;2>0@0;1>2@2";
        CHECK.due("states of that house", new PlanCount(4, more, 0, (w, s) -> s - w).within(1000), 3001);
        LeastWished y = planned(4, more, "s-w", 0);
        CHECK.due("one more: stuck()", y.stuck(), -3);
        CHECK.due("one more: all()", y.all(), -3);
        CHECK.due("one more: gather() what is", y.gather(0, 7), 0);
        String four = "1>-@0;1>0@0;0>1@0;1>-@2;0>0@0;0>1@0";
        CHECK.due("states by four rides", new PlanCount(3, four, -1, (w, s) -> w).within(4), 3000);
        CHECK.due("just 3000: states(4)", planned(3, four, "w", -1).states(4), 3000);
        CHECK.due("more: states(5)", planned(3, four, "w", -1).states(5), -3);
        String fourMore = "1>0@0;2>0@0;2>2@0;0>-@1;1>1@0;0>2@0;2>0@0";
        CHECK.due("states by four rides", new PlanCount(3, fourMore, -1, (w, s) -> w).within(4), 3001);
        CHECK.due("one more: states(4)", planned(3, fourMore, "w", -1).states(4), -3);
        CHECK.due("one ride less: states(3)", planned(3, fourMore, "w", -1).states(3),
                new PlanCount(3, fourMore, -1, (w, s) -> w).within(3));
    }

    private static void lawWithRides() {
        CHECK.says(TWO, "-4: THE LAW has an r in it (asked ahead of -3, behind NONE).");
        LeastWished x = planned(9, TEN.replace("1>", "8>"), "d", -1);
        CHECK.due("no r: stuck()", x.stuck(), -3);
        Check.law(x, "d+0*r");
        CHECK.due("ahead of -3: stuck()", x.stuck(), -4);
        CHECK.due("ahead of -3: all()", x.all(), -4);
        CHECK.due("ahead of -3: one(9)", x.one(9), -4);
        CHECK.due("ahead of -3: gather(8, 0)", x.gather(8, 0), -4);
        CHECK.due("ahead of -3: states(6)", x.states(6), -4);
        CHECK.due("behind NONE: one(10)", x.one(10), -1);
        CHECK.due("behind NONE: gather(9, 0)", x.gather(9, 0), -1);
        CHECK.due("behind NONE: gather(0, 1024)", x.gather(0, 1024), -1);
        CHECK.due("behind NONE: states(7)", x.states(7), -1);
        CHECK.due("behind NONE: since(0), which stands", x.since(0), -1);
        CHECK.due("a law that is refused", Check.law(x, "r+"), -3);
        CHECK.due("leaves the r", x.states(0), -4);
        CHECK.due("a law without r", Check.law(x, "d"), 0);
        CHECK.due("no r any more", x.states(0), 1);
        CHECK.due("a refused law with an r", Check.law(x, "r)"), -2);
        CHECK.due("brings none", x.states(0), 1);
        Check.law(x, "r");
        CHECK.due("no law at all", Check.law(x, ""), 0);
        CHECK.due("has no r", x.states(0), 1);
    }

    private static void nothing(String what, Twins.Act call) {
        Twins.nothing(CHECK, what, Twins::full, call);
    }

    private static void refused() {
        CHECK.says(TWO, "Refused calls answer NONE, or false, and change nothing but THE TEXT, which a call that reads it empties.");
        nothing("sign() beyond 80", x -> {
            for (int k = 0; k < 40; k++) {
                x.sign(0);
            }
            x.end(5);
        });
        nothing("end()", x -> CHECK.due("end(6)", x.end(6) || x.end(-1), false));
        nothing("floors()", x -> CHECK.due("floors(1), floors(10)", x.floors(1) || x.floors(10), false));
        nothing("set()", x -> CHECK.due("set()", x.set(0, 1, 5) || x.set(1, 1, 5) || x.set(1, 1, -2) || x.set(2, 1, 11)
                || x.set(2, 1, -1) || x.set(3, 1, 1) || x.set(0, 5, 1) || x.set(0, -1, 1), false));
        nothing("sheet()", x -> CHECK.due("sheet()", x.sheet(4, 1, 1, 1) + x.sheet(0, 11, 1, 1) + x.sheet(2, -1, 1, 1), -4));
        nothing("dog()", x -> CHECK.due("dog(5), dog(-2)", x.dog(5) || x.dog(-2), false));
        nothing("crowd()", x -> CHECK.due("crowd(1, 11), crowd(1, -1)", x.crowd(1, 11) + x.crowd(1, -1), -2));
        nothing("crowd() of as many", x -> CHECK.due("crowd(1, 5), crowd(1, 4)", x.crowd(1, 5) + x.crowd(1, 4), 0));
        nothing("enter()", x -> CHECK.due("enter()", x.enter(0) || x.enter(1) || x.enter(2) || x.enter(5) || x.enter(-1), false));
        nothing("leave()", x -> CHECK.due("leave()", x.leave(0) || x.leave(2) || x.leave(4) || x.leave(5) || x.leave(-1), false));
        nothing("rides()", x -> CHECK.due("rides(61), rides(-1)", x.rides(61) + x.rides(-1), -2));
        nothing("goes()", x -> CHECK.due("goes(1), goes(4), goes(32)", x.goes(1) + x.goes(4) + x.goes(32), -6));
        nothing("along()", x -> CHECK.due("along(5), along(-1)", x.along(5) + x.along(-1), -2));
        nothing("without()", x -> CHECK.due("without(5), without(-1)", x.without(5) + x.without(-1), -2));
        nothing("advise()", x -> CHECK.due("advise(0), advise(4), advise(5)", x.advise(0) + x.advise(4) + x.advise(5), -6));
        nothing("rests()", x -> CHECK.due("rests(31), rests(-1)", x.rests(31) + x.rests(-1), -2));
        nothing("then()", x -> CHECK.due("then(13), then(-1)", x.then(13) + x.then(-1), -2));
        nothing("since()", x -> CHECK.due("since(0), since(4), since(5)", x.since(0) + x.since(4) + x.since(5), -3));
        nothing("hinders()", x -> CHECK.due("hinders(41), hinders(-1)", x.hinders(41) + x.hinders(-1), -2));
        nothing("one()", x -> CHECK.due("one(5), one(-1)", x.one(5) + x.one(-1), -2));
        nothing("gather()", x -> CHECK.due("gather(5, 0), gather(0, 32)", x.gather(5, 0) + x.gather(0, 32), -2));
        nothing("states()", x -> CHECK.due("states(7), states(-1)", x.states(7) + x.states(-1), -2));
        nothing("saw()", x -> CHECK.due("saw()", x.saw(0, 1, 0) + x.saw(5, 1, 0) + x.saw(0, 1, 5) + x.saw(0, 32, 1), -4));
        nothing("fits(), truly()", x -> CHECK.due("fits(5), truly(5)", x.fits(5) + x.truly(5), -2));
        nothing("odds()", x -> CHECK.due("odds(5), odds(-1)", x.odds(5) + x.odds(-1), -2));
        nothing("keep()", x -> CHECK.due("keep(3), keep(-1)", x.keep(3) || x.keep(-1), false));
        nothing("again()", x -> CHECK.due("again(1), again(3)", x.again(1) || x.again(3) || x.again(-1), false));
        Twins.nothing(CHECK, "undo()", LeastWished::new, x -> CHECK.due("undo()", x.undo(), -1));
        Twins.nothing(CHECK, "plans by r", Twins::fullByRides,
                x -> CHECK.due("plans by r", x.all() + x.one(1) + x.gather(0, 0) + x.states(1) + x.stuck() + x.since(1), -24));
    }

    private static void refusedByException() {
        nothing("of(5, 0)", x -> x.of(5, 0));
        nothing("of(0, 6)", x -> x.of(0, 6));
        nothing("worthOf(5)", x -> x.worthOf(5));
        nothing("ballast(4, 1), one that stands", x -> x.ballast(4, 1));
        nothing("ballast(1, 41)", x -> x.ballast(1, 41));
        nothing("row(5)", x -> x.row(5));
    }

    private static void textIsEmptied() {
        for (String text : new String[] {"x", "1>5@0", "3>1@0!", "3>1@2;", "1>1@1;1>1@1;1>1@1;1>1@1;1>1@1;1>1@1", "", "w>"}) {
            Twins.nothingButTheText(CHECK, "house() of " + text, Twins::full, x -> {
                Check.text(x, text);
                CHECK.due("no line of " + text, x.house() <= 0, true);
            });
        }
        for (String text : new String[] {"x", "w+", "((((((", "1>2>3", "1234", "(w"}) {
            Twins.nothingButTheText(CHECK, "law() of " + text, Twins::full, x -> {
                Check.text(x, text);
                CHECK.due("no law by " + text, x.law() < 0, true);
            });
        }
        for (String text : new String[] {"x", "r;", "r0", "r;iba", "wb1;w", "oo", "r10"}) {
            Twins.nothingButTheText(CHECK, "day() of " + text, Twins::full, x -> {
                Check.text(x, text);
                CHECK.due("no day by " + text, x.day() < 0, true);
            });
        }
    }
}
