/** Boundary cases of promises 18 to 29. */
final class WhereBounds {
    private static final Check CHECK = BoundaryTest.CHECK;
    private static final int LEAST = Integer.MIN_VALUE;
    private static final int MOST = Integer.MAX_VALUE;

    private WhereBounds() {
    }

    static void hold() {
        stop();
        goes();
        worthOf();
        can();
        along();
        without();
        advise();
        adviseAmongEqual();
        rests();
        restsOrNot();
        then();
        since();
        ballast();
        hinders();
    }

    private static void quiet(String what, Twins.Act call) {
        Twins.nothingButTheRow(CHECK, what + " changes nothing", Twins::full, call);
    }

    private static void stop() {
        CHECK.says("Promise 18", "THE STOP of the next RIDE, as it is.");
        LeastWished x = Twins.full();
        CHECK.due("by who is in", x.stop(), 4);
        x.leave(1);
        CHECK.due("by who is in then", x.stop(), 1);
        CHECK.due("it is as ride() goes", x.ride(), 1);
        LeastWished y = new LeastWished();
        y.dog(0);
        Check.day(y, "r5");
        CHECK.due("ride 6 is the law's", y.stop(), 0);
        y.floors(3);
        y.dog(2);
        Check.day(y, "r6");
        CHECK.due("ride 7 is the dog's", y.stop(), 2);
        Check.day(y, "r");
        CHECK.due("ride 8 is the law's", y.stop(), 1);
        Twins.nothing(CHECK, "stop()", Twins::full, LeastWished::stop);
    }

    private static void goes() {
        CHECK.says("Promise 19", "THE STOP, if of those on THE LIFT's FLOOR just those told as bits were IN; "
                + "the ROW: LAW of each FLOOR then.");
        LeastWished x = Twins.full();
        CHECK.told("none of them", x.goes(0), 1, x, 1, 0, 2, 1, 0);
        CHECK.told("as it is", x.goes(2), 4, x, 1, 3, 1, 1, 0);
        CHECK.told("the one that stands alone", x.goes(16), 4, x, 1, 3, 1, 1, 0);
        CHECK.told("all of them", x.goes(18), 4, x, 1, 6, 0, 1, 0);
        LeastWished ten = Check.lift(2, TermsBounds.TEN);
        CHECK.told("all ten", ten.goes(1023), 1, ten, 0, 0);
        LeastWished nobody = new LeastWished();
        CHECK.told("nobody", nobody.goes(0), 1, nobody, 0, 0);
        LeastWished dog = Check.lift(3, "1>1@0;1>2@0");
        dog.dog(2);
        Check.day(dog, "r6");
        Check.law(dog, "w+s+r");
        CHECK.told("the dog decides, the law is told all the same", dog.goes(1), 2, dog, 7, 7, 6);
        CHECK.told("and anew, by others", dog.goes(2), 2, dog, 7, 6, 7);
        quiet("goes(18)", y -> y.goes(18));
        CHECK.says("Promise 19", "-2: bits of others.");
        for (int those : new int[] {1, 4, 8, 32, 3, 2 + 32, 512, 1024, LEAST, MOST, -1, -2}) {
            Twins.nothing(CHECK, "goes(" + those + ")", Twins::full, y -> CHECK.due("goes(" + those + ")", y.goes(those), -2));
        }
        CHECK.due("an eleventh", ten.goes(1024), -2);
        CHECK.due("of nobody", nobody.goes(1), -2);
    }

    private static void worthOf() {
        CHECK.says("Promise 20", "THE LAW for a FLOOR, as it is.");
        LeastWished x = Twins.full();
        int[] due = {1, 3, 1, 1, 0};
        for (int f = 0; f < 5; f++) {
            CHECK.due("worthOf(" + f + ")", x.worthOf(f), due[f]);
        }
        Twins.nothing(CHECK, "worthOf(2)", Twins::full, y -> y.worthOf(2));
        CHECK.says("Promise 20", "NoSuchElementException: none such.");
        for (int f : new int[] {-1, 5, 9, LEAST, MOST}) {
            CHECK.none("worthOf(" + f + ")", () -> x.worthOf(f));
        }
    }

    private static void can() {
        CHECK.says("Promise 21", "FLOORS (bits) that can be THE STOP, by some of those on THE LIFT's FLOOR being IN; "
                + "the ROW: for each FLOOR in how many ways.");
        LeastWished x = Twins.full();
        CHECK.told("by b and e", x.can(), 2 + 16, x, 0, 1, 0, 0, 3);
        LeastWished nobody = new LeastWished();
        CHECK.told("of nobody in one way", nobody.can(), 2, nobody, 0, 1);
        LeastWished ten = Check.lift(9, TermsBounds.TEN);
        Check.law(ten, "(n=10)*(f<8)");
        CHECK.told("all ten of 1024 ways", ten.can(), 2 + 256, ten, 0, 1023, 0, 0, 0, 0, 0, 0, 1);
        ten.ride();
        Check.law(ten, "");
        CHECK.told("all ten are elsewhere", ten.can(), 1, ten, 1, 0, 0, 0, 0, 0, 0, 0, 0);
        LeastWished dog = Check.lift(3, "1>1@0;1>1@0");
        dog.dog(2);
        Check.day(dog, "r6");
        CHECK.told("the dog's in each way", dog.can(), 4, dog, 0, 0, 4);
        LeastWished apart = Check.lift(3, "0>1@2;0>2@0;0>1@0");
        CHECK.told("the first is elsewhere", apart.can(), 6, apart, 0, 3, 1);
        quiet("can()", LeastWished::can);
    }

    private static void along() {
        CHECK.says("Promise 22", "The fewest of those that STAND on THE LIFT's FLOOR to be taken along, besides those IN, "
                + "so that THE STOP is a FLOOR: how many; the ROW: who (bits; of as few the least).");
        LeastWished x = Check.lift(4, "0>1@0;0>2@0;0>1@0;0>2@0;0>1@2");
        CHECK.told("none is needed", x.along(1), 0, x, 0);
        CHECK.told("one, of two the least", x.along(2), 1, x, 1);
        CHECK.told("two, of four sets the least", x.along(3), 2, x, 3);
        x.enter(2);
        CHECK.told("besides one that is in", x.along(3), 1, x, 2);
        CHECK.told("it is so by who is in", x.along(2), 0, x, 0);
        CHECK.told("none can outweigh it", x.along(1), -2, x, 0);
        LeastWished in = Check.lift(3, "0>1@0!;0>2@0;0>1@0");
        CHECK.told("the first is in: none is needed", in.along(2), 0, in, 0);
        CHECK.told("the first is in: the second", in.along(1), 1, in, 2);
        LeastWished ten = Check.lift(3, TermsBounds.TEN);
        Check.law(ten, "(f=1)*(n=10)");
        CHECK.told("all ten", ten.along(2), 10, ten, 1023);
        Check.law(ten, "(f=1)*(n=9)");
        CHECK.told("nine of ten", ten.along(2), 9, ten, 511);
        quiet("along(1)", y -> y.along(1));
        CHECK.says("Promise 22", "-2: none do so; NONE: none such.");
        CHECK.due("where the lift is", x.along(0), -2);
        CHECK.due("nobody could", new LeastWished().along(0), -2);
        for (int f : new int[] {0, 2, 3}) {
            Twins.nothing(CHECK, "along(" + f + ")", Twins::full, y -> CHECK.due("along(" + f + ")", y.along(f), -2));
        }
        for (int f : new int[] {-1, 5, 9, LEAST, MOST}) {
            Twins.nothing(CHECK, "along(" + f + ")", Twins::full, y -> CHECK.due("along(" + f + ")", y.along(f), -1));
        }
    }

    private static void without() {
        CHECK.says("Promise 23", "The fewest of those IN to be sent out, likewise.");
        LeastWished x = Check.lift(4, "0>1@0!;0>2@0!;0>1@0!;0>2@0!;0>1@2");
        Check.law(x, "w+(n>3)*(f<3)");
        CHECK.told("none is needed", x.without(3), 0, x, 0);
        CHECK.told("both that wish it", x.without(1), 2, x, 5);
        CHECK.told("the other two", x.without(2), 2, x, 10);
        CHECK.due("where the lift is", x.without(0), -2);
        x.leave(0);
        CHECK.told("one stands already", x.without(1), 1, x, 4);
        LeastWished stands = Check.lift(3, "0>1@0;0>1@0!;0>2@0!");
        CHECK.told("the first stands: none is needed", stands.without(1), 0, stands, 0);
        CHECK.told("the first stands: the third", stands.without(2), 1, stands, 4);
        LeastWished ten = Check.lift(3, TermsBounds.TEN.replace("@0", "@0!"));
        Check.law(ten, "(f=1)*(n=0)");
        CHECK.told("all ten", ten.without(2), 10, ten, 1023);
        Check.law(ten, "(f=1)*(n=1)");
        CHECK.told("nine of ten", ten.without(2), 9, ten, 511);
        quiet("without(1)", y -> y.without(1));
        for (int f : new int[] {0, 2, 3}) {
            Twins.nothing(CHECK, "without(" + f + ")", Twins::full, y -> CHECK.due("without(" + f + ")", y.without(f), -2));
        }
        for (int f : new int[] {-1, 5, 9, LEAST, MOST}) {
            Twins.nothing(CHECK, "without(" + f + ")", Twins::full, y -> CHECK.due("without(" + f + ")", y.without(f), -1));
        }
        CHECK.due("nobody is in", new LeastWished().without(0), -2);
    }

    private static void advises(String law, int floors, String house, int wish, int far) {
        LeastWished x = Check.lift(floors, house);
        Check.law(x, law);
        CHECK.told("advise(0) of " + house + " by " + law, x.advise(0), wish, x, far);
    }

    private static void advise() {
        CHECK.says("Promise 24", "The WISH one that is IN would best tell so that THE STOP is the nearest to its HOME");
        advises("w", 5, "4>4@0!", 1, 2);
        advises("-w", 9, "8>1@0!", 8, 0);
        advises("-w", 9, "1>8@0!", -1, 0);
        advises("-w*(n=10)", 9, TermsBounds.TEN.replace("1>-@0", "8>-@0!"), 8, 0);
        advises("w", 5, "0>1@0!", -1, 1);
        CHECK.says("Promise 24", "it, or NONE; the ROW: how far from HOME THE STOP is then.");
        advises("w", 9, "8>-@0!", 1, 6);
        advises("w", 5, "1>1@0!", -1, 0);
        advises("-(f=8)", 9, "0>1@0!", 1, 8);
        quiet("advise(1)", x -> x.advise(1));
        CHECK.says("Promise 24", "-2: it is not IN, none such.");
        for (int i : new int[] {0, 2, 3, 4, 5, 9, 10, 31, 32, 33, -1, LEAST, MOST}) {
            Twins.nothing(CHECK, "advise(" + i + ")", Twins::full, x -> CHECK.due("advise(" + i + ")", x.advise(i), -2));
        }
    }

    private static void adviseAmongEqual() {
        CHECK.says("Promise 24", "(of as good ones its own, then none, then the lowest)");
        advises("f", 5, "0>3@0!", 3, 1);
        advises("f", 5, "0>4@0!", 4, 1);
        advises("f", 5, "0>-@0!", -1, 1);
        advises("w", 5, "1>2@0!", 2, 0);
        advises("w", 5, "1>1@0!", -1, 0);
        // By 1 it stops on 1, by 3 on 3, as far from 2; by its own, by none and by others on 4.
        advises("-(f=4)-w*2+(f=2)*9", 5, "2>4@0!", 1, 1);
        // By none, by 0, 3 and 4 it stops on 2; its own is 2, by which it stops on 3.
        advises("(f=1)*2-w*(f=1)-(f=2)+w*(f=2)*9", 5, "2>2@0!", -1, 0);
        LeastWished x = Check.lift(5, "1>2@0!");
        x.dog(4);
        Check.day(x, "wa2;oa;r6;ia");
        CHECK.told("the dog decides: its own", x.advise(0), 2, x, 3);
    }

    private static void rests() {
        CHECK.says("Promise 25", "Round by round (n at most, 0 .. 30), by their numbers, each that is IN tells what advise() tells,");
        LeastWished x = Check.lift(5, "1>1@0!;2>0@0!;4>4@0");
        CHECK.told("rests(0)", x.rests(0), 0, x, 0, 2, 1, 0, 4);
        CHECK.told("rests(1)", x.rests(1), 1, x, 0, 2, -1, 1, 4);
        CHECK.told("rests(2)", x.rests(2), 2, x, 1, 2, -1, 1, 4);
        CHECK.told("rests(30)", x.rests(30), 2, x, 1, 2, -1, 1, 4);
        CHECK.says("Promise 25", "till in a whole round none tells another one: how many rounds (that last one, too); "
                + "the ROW: 1 if there was such a last one, else 0, THE STOP then, WISHES of all.");
        LeastWished nobody = new LeastWished();
        CHECK.told("nobody: rests(0)", nobody.rests(0), 0, nobody, 0, 1);
        CHECK.told("nobody: rests(1)", nobody.rests(1), 1, nobody, 1, 1);
        CHECK.told("nobody: rests(30)", nobody.rests(30), 1, nobody, 1, 1);
        LeastWished ten = Check.lift(3, TermsBounds.TEN.replace("@0", "@0!"));
        CHECK.told("ten", ten.rests(30), 1, ten, 1, 1, -1, -1, -1, -1, -1, -1, -1, -1, -1, -1);
    }

    private static void restsOrNot() {
        LeastWished x = Check.lift(3, "1>-@0!;2>-@0!");
        Check.law(x, "(f=1)*(w=1)");
        CHECK.told("never: rests(1)", x.rests(1), 1, x, 0, 2, -1, 1);
        CHECK.told("never: rests(2)", x.rests(2), 2, x, 0, 2, 1, -1);
        CHECK.told("never: rests(29)", x.rests(29), 29, x, 0, 2, -1, 1);
        CHECK.told("never: rests(30)", x.rests(30), 30, x, 0, 2, 1, -1);
        CHECK.says("Promise 25", "Nothing changes.");
        quiet("rests(30)", y -> y.rests(30));
        CHECK.due("wishes of both", x.of(0, 1) + x.of(1, 1), -2);
        CHECK.says("Promise 25", "NONE: another n.");
        for (int n : new int[] {-1, 31, LEAST, MOST}) {
            Twins.nothing(CHECK, "rests(" + n + ")", Twins::full, y -> CHECK.due("rests(" + n + ")", y.rests(n), -1));
        }
    }

    /** The lift goes between 0 and 1, and to 2 on the ride of that number. */
    private static String toTwoOn(int number) {
        return "(f=2)*((r<" + (number - 1) + ")-(r>" + (number - 2) + "))";
    }

    private static void then() {
        CHECK.says("Promise 26", "STOPS of the next n RIDES (0 .. 12), nobody entering or leaving: how many come home; the ROW: STOPS.");
        LeastWished x = Check.lift(3, "2>-@0!;1>-@0;2>-@0!");
        Check.law(x, toTwoOn(12));
        CHECK.told("then(0)", x.then(0), 0, x);
        CHECK.told("then(1)", x.then(1), 0, x, 1);
        CHECK.told("then(11)", x.then(11), 0, x, 1, 0, 1, 0, 1, 0, 1, 0, 1, 0, 1);
        CHECK.told("then(12)", x.then(12), 2, x, 1, 0, 1, 0, 1, 0, 1, 0, 1, 0, 1, 2);
        LeastWished ten = Check.lift(3, TermsBounds.TEN.replace("@0", "@0!"));
        CHECK.told("ten come home", ten.then(1), 10, ten, 1);
        LeastWished nobody = new LeastWished();
        CHECK.told("nobody: the lift goes all the same", nobody.then(3), 0, nobody, 1, 0, 1);
        quiet("then(12)", y -> y.then(12));
        CHECK.says("Promise 26", "NONE: another n.");
        for (int n : new int[] {-1, 13, LEAST, MOST}) {
            Twins.nothing(CHECK, "then(" + n + ")", Twins::full, y -> CHECK.due("then(" + n + ")", y.then(n), -1));
        }
    }

    private static void since() {
        CHECK.says("Promise 27", "After how many RIDES, nobody entering or leaving, one that is IN is AT HOME: how many.");
        LeastWished x = Check.lift(9, "1>-@0!;0>-@0!;8>-@0!;2>-@0!;4>-@0;3>-@0!");
        Check.law(x, "d");
        CHECK.due("the next ride", x.since(0), 1);
        CHECK.due("one whose home is where it is", x.since(1), 2);
        CHECK.says("Promise 27", "-2: it never is;");
        CHECK.due("never", x.since(2), -2);
        x.dog(8);
        CHECK.due("by the dog", x.since(2), 7);
        CHECK.due("five rides behind the dog", x.since(5), 12);
        CHECK.due("six rides behind the dog, ahead of its next", x.since(3), 13);
        x.set(0, 5, 1);
        CHECK.due("one is at home by the first", x.since(5), 1);
        sinceLong();
        Twins.nothing(CHECK, "since(1)", Twins::full, y -> y.since(1));
        CHECK.says("Promise 27", "NONE: it is not IN, none such; -4: as PLANS.");
        for (int i : new int[] {0, 2, 3, 4, 5, 9, 10, 31, 32, 33, -1, LEAST, MOST}) {
            Twins.nothing(CHECK, "since(" + i + ")", Twins::full, y -> CHECK.due("since(" + i + ")", y.since(i), -1));
            Twins.nothing(CHECK, "since(" + i + ") by r", Twins::fullByRides, y -> CHECK.due("by r", y.since(i), -1));
        }
        Twins.nothing(CHECK, "since(1) by r", Twins::fullByRides, y -> CHECK.due("by r", y.since(1), -4));
    }

    private static void sinceLong() {
        LeastWished x = Check.lift(9, "6>8@0!;5>2@0!;3>8@0!;8>1@0!;1>4@0!;4>6@0!;1>5@0!;2>4@0!;8>3@0!;1>2@0!");
        Check.law(x, "w-s*n");
        x.dog(8);
        int since = x.since(0);
        int rides = 0;
        while (rides < 200 && x.of(0, 3) >= 0) {
            x.ride();
            rides++;
        }
        CHECK.due("as long as it rides", since, rides);
        CHECK.due("four dogs", rides, 30);
    }

    private static void ballast() {
        CHECK.says("Promise 28", "What one that is IN is worth as ballast: how many others come home in the next n RIDES (0 .. 40), "
                + "less how many do, if it STANDS instead.");
        LeastWished x = Check.lift(3, "2>-@0!;2>-@0!");
        Check.law(x, "(f=2)*((r<39)-(r>38)*(n>1))");
        CHECK.due("ballast(0, 0)", x.ballast(0, 0), 0);
        CHECK.due("ballast(0, 39)", x.ballast(0, 39), 0);
        CHECK.due("ballast(0, 40)", x.ballast(0, 40), 1);
        CHECK.due("ballast(1, 40)", x.ballast(1, 40), 1);
        LeastWished ten = Check.lift(3, TermsBounds.TEN.replace("@0", "@0!"));
        Check.law(ten, "(n=10)*(f=1)");
        CHECK.due("nine come home if it stands", ten.ballast(9, 1), -9);
        Check.law(ten, "(n<10)*(f=1)");
        CHECK.due("nine come home by it, itself not counted", ten.ballast(9, 1), 9);
        Twins.nothing(CHECK, "ballast(1, 40)", Twins::full, y -> y.ballast(1, 40));
        CHECK.says("Promise 28", "NoSuchElementException: others.");
        for (int i : new int[] {2, 9, 10, 31, 32, 33, -1, LEAST, MOST}) {
            CHECK.none("ballast(" + i + ", 1)", () -> x.ballast(i, 1));
        }
        for (int n : new int[] {41, -1, LEAST, MOST}) {
            CHECK.none("ballast(0, " + n + ")", () -> x.ballast(0, n));
        }
        for (int i : new int[] {0, 2, 3, 4, 5}) {
            CHECK.none("one that is not in", () -> Twins.full().ballast(i, 1));
        }
    }

    private static void hinders() {
        CHECK.says("Promise 29", "Who, of those IN, makes the greatest number come home in the next n RIDES (0 .. 40) "
                + "by being sent out (itself not counted): of equal ones the first: it; the ROW: how many.");
        LeastWished x = Check.lift(3, "2>-@0;2>-@0!;2>-@0!");
        Check.law(x, toTwoOn(40));
        CHECK.told("hinders(0)", x.hinders(0), 1, x, 0);
        CHECK.told("hinders(39)", x.hinders(39), 1, x, 0);
        CHECK.told("hinders(40)", x.hinders(40), 1, x, 1);
        LeastWished ten = Check.lift(3, TermsBounds.TEN.replace("@0", "@0!"));
        CHECK.told("nine of ten", ten.hinders(1), 0, ten, 9);
        ten.set(1, 9, 1);
        CHECK.told("the last one hinders", ten.hinders(1), 9, ten, 9);
        LeastWished one = Twins.full();
        CHECK.told("one alone", one.hinders(40), 1, one, 0);
        quiet("hinders(40)", y -> y.hinders(40));
        CHECK.says("Promise 29", "-2: nobody is IN; NONE: another n.");
        LeastWished nobody = Check.lift(3, "2>-@0");
        CHECK.due("nobody is in", nobody.hinders(40), -2);
        CHECK.due("nobody is there", new LeastWished().hinders(0), -2);
        CHECK.due("no row", nobody.count(10), 0);
        for (int n : new int[] {-1, 41, LEAST, MOST}) {
            CHECK.due("nobody is in: hinders(" + n + ")", nobody.hinders(n), -1);
            Twins.nothing(CHECK, "hinders(" + n + ")", Twins::full, y -> CHECK.due("hinders(" + n + ")", y.hinders(n), -1));
        }
    }
}
