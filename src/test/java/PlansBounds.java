/** Boundary cases of promises 30 to 34. */
final class PlansBounds {
    private static final Check CHECK = BoundaryTest.CHECK;
    private static final int LEAST = Integer.MIN_VALUE;
    private static final int MOST = Integer.MAX_VALUE;
    // Just 3000 states can come of this one by w and a dog on 0, as TermsBounds counts; the first one is stuck.
    private static final String JUST = "2>2@0;0>1@1;1>0@1;0>2@2;0>-@0";
    // 3001 of this one on four floors, by s-w and a dog on 0; all come home, but not all in one plan.
    private static final String MORE = "2>-@0;2>0@0;2>0@0;1>2@2";

    private PlansBounds() {
    }

    static void hold() {
        all();
        allRow();
        allOrNot();
        one();
        gather();
        gatherOrNot();
        states();
        statesOrNot();
        stuck();
    }

    private static LeastWished planned(int floors, String house, String law, int dog) {
        LeastWished x = Check.lift(floors, house);
        Check.law(x, law);
        x.dog(dog);
        return x;
    }

    private static void quiet(String what, Twins.Act call) {
        Twins.nothingButTheRow(CHECK, what + " changes nothing", Twins::full, call);
    }

    private static void all() {
        CHECK.says("Promise 30", "The fewest RIDES of a PLAN by which all are AT HOME: how many;");
        LeastWished nobody = new LeastWished();
        nobody.goes(0);
        CHECK.told("nobody", nobody.all(), 0, nobody);
        LeastWished ten = Check.lift(3, TermsBounds.TEN);
        CHECK.told("ten at once", ten.all(), 1, ten, 1023);
        Check.day(ten, "iabcdefghij;r");
        CHECK.told("all are at home", ten.all(), 0, ten);
        LeastWished home = Check.lift(3, "0>-@0");
        CHECK.told("one that stands where its home is has to go and come", home.all(), 2, home, 1, 1);
        LeastWished in = Check.lift(3, "0>-@0!");
        CHECK.told("one that is in there, too", in.all(), 2, in, 1, 1);
        quiet("all()", LeastWished::all);
    }

    private static void allRow() {
        CHECK.says("Promise 30", "the ROW: who is IN in each (the first 10; bits): of as few the least row.");
        LeastWished nine = planned(9, "6>-@0", "d", 8);
        CHECK.told("nine rides", nine.all(), 9, nine, 0, 0, 0, 0, 0, 0, 1, 1, 1);
        LeastWished ten = planned(9, "5>-@0", "d", 8);
        CHECK.told("ten rides", ten.all(), 10, ten, 0, 0, 0, 0, 0, 0, 1, 1, 1, 1);
        LeastWished eleven = planned(9, "4>-@0", "d", 8);
        CHECK.told("eleven rides, of which ten are told", eleven.all(), 11, eleven, 0, 0, 0, 0, 0, 0, 1, 1, 1, 1);
        LeastWished twelve = planned(9, "3>-@0", "d", 8);
        CHECK.told("twelve rides, of which ten are told", twelve.all(), 12, twelve, 0, 0, 0, 0, 0, 0, 1, 1, 1, 1);
        LeastWished three = Check.lift(3, "0>-@0;1>-@1;1>-@0");
        CHECK.told("c can come home by ride 1 or 3", three.all(), 3, three, 1, 3, 6);
    }

    private static void allOrNot() {
        CHECK.says("Promise 30", "-2: there is none; -3, -4.");
        Twins.nothing(CHECK, "all() of what can't be", () -> planned(3, JUST, "w", 0), x -> CHECK.due("none", x.all(), -2));
        LeastWished never = Check.lift(3, "2>-@0");
        CHECK.due("there is none", never.all(), -2);
        LeastWished some = Check.lift(3, "2>-@0;1>-@0");
        CHECK.due("for some there is one, not for all", some.all(), -2);
        Twins.nothing(CHECK, "all() of too many", () -> planned(4, MORE, "s-w", 0), x -> CHECK.due("more", x.all(), -3));
        Twins.nothing(CHECK, "all() by r", () -> planned(4, MORE, "s-w+0*r", 0), x -> CHECK.due("by r", x.all(), -4));
        LeastWished nobody = new LeastWished();
        Check.law(nobody, "r");
        CHECK.due("nobody, but by r", nobody.all(), -4);
    }

    private static void one() {
        CHECK.says("Promise 31", "The fewest RIDES of a PLAN by which one is AT HOME: how many; the ROW: likewise.");
        LeastWished x = Check.lift(3, "1>-@0;1>-@0;2>1@0!");
        CHECK.told("alone, as that row is less", x.one(0), 1, x, 1);
        CHECK.told("the second alone", x.one(1), 1, x, 2);
        CHECK.told("the third", x.one(2), 1, x, 4);
        Check.day(x, "ia;oc;r");
        CHECK.told("it is at home", x.one(0), 0, x);
        LeastWished ten = planned(9, TermsBounds.TEN, "w", -1);
        CHECK.told("the tenth", ten.one(9), 1, ten, 512);
        LeastWished eleven = planned(9, "4>-@0", "d", 8);
        CHECK.told("eleven rides, of which ten are told", eleven.one(0), 11, eleven, 0, 0, 0, 0, 0, 0, 1, 1, 1, 1);
        LeastWished late = planned(9, "5>-@0", "d", 8);
        CHECK.told("ten rides", late.one(0), 10, late, 0, 0, 0, 0, 0, 0, 1, 1, 1, 1);
        quiet("one(1)", y -> y.one(1));
        CHECK.says("Promise 31", "-2, -3, -4; NONE: none such.");
        Twins.nothing(CHECK, "one() that is stuck", () -> planned(3, JUST, "w", 0), y -> CHECK.due("stuck", y.one(0), -2));
        LeastWished many = planned(9, TermsBounds.TEN.replace("1>", "8>"), "d", -1);
        CHECK.due("too many", many.one(9), -3);
        Check.law(many, "d+0*r");
        CHECK.due("by r", many.one(9), -4);
        for (int i : new int[] {5, 9, 10, 31, 32, -1, LEAST, MOST}) {
            Twins.nothing(CHECK, "one(" + i + ")", Twins::full, y -> CHECK.due("one(" + i + ")", y.one(i), -1));
            Twins.nothing(CHECK, "one(" + i + ") by r", Twins::fullByRides, y -> CHECK.due("by r", y.one(i), -1));
        }
        CHECK.due("none such of ten", ten.one(10), -1);
    }

    private static void gather() {
        CHECK.says("Promise 32", "The fewest RIDES of a PLAN by which THE LIFT is on a FLOOR (0: it is) "
                + "with just those told as bits on it (STANDING or IN; all others elsewhere): how many.");
        LeastWished x = Twins.full();
        CHECK.due("it is, with b and e", x.gather(2, 2 + 16), 0);
        CHECK.due("to 1 alone", x.gather(1, 0), 1);
        CHECK.due("to 4 with b", x.gather(4, 2), 1);
        CHECK.due("to 4 with both", x.gather(4, 2 + 16), 1);
        LeastWished nobody = new LeastWished();
        CHECK.due("nobody, where it is", nobody.gather(0, 0), 0);
        CHECK.due("nobody, where it is not", nobody.gather(1, 0), 1);
        LeastWished ten = Check.lift(3, TermsBounds.TEN.replace("1>", "2>"));
        CHECK.due("all ten, where they are", ten.gather(0, 1023), 0);
        CHECK.due("all ten one floor up", ten.gather(1, 1023), 1);
        CHECK.due("the tenth alone", ten.gather(1, 512), 1);
        LeastWished two = Check.lift(3, "1>-@0!;2>-@0");
        CHECK.due("both, where they are", two.gather(0, 3), 0);
        CHECK.due("not with the one that is in alone", two.gather(0, 1), 2);
        CHECK.due("nor with the one that stands alone", two.gather(0, 2), 2);
        LeastWished y = Check.lift(3, "0>-@0;1>-@1");
        CHECK.due("one that stands there already", y.gather(1, 2), 1);
        CHECK.due("and one that comes", y.gather(1, 3), 1);
        CHECK.due("without the one that stands there", y.gather(1, 1), 3);
        Twins.nothing(CHECK, "gather(2, 18)", Twins::full, z -> z.gather(2, 18));
        Twins.nothing(CHECK, "gather(4, 2)", Twins::full, z -> z.gather(4, 2));
    }

    private static void gatherOrNot() {
        CHECK.says("Promise 32", "-2, -3, -4; NONE: bits of none such, no such FLOOR.");
        LeastWished home = Check.lift(3, "1>-@0!;2>-@0");
        home.ride();
        CHECK.due("one that is at home is on no floor", home.gather(1, 1), -2);
        CHECK.due("the lift never comes there", home.gather(2, 0), -2);
        CHECK.due("one comes to no floor where its home is", home.gather(2, 2), -2);
        LeastWished many = planned(9, TermsBounds.TEN.replace("1>", "8>"), "d", -1);
        CHECK.due("too many", many.gather(8, 0), -3);
        Check.law(many, "d+0*r");
        CHECK.due("by r", many.gather(8, 0), -4);
        CHECK.due("by r, though it is", many.gather(0, 1023), -4);
        for (int those : new int[] {32, 1 + 32, 1024, LEAST, MOST, -1}) {
            Twins.nothing(CHECK, "gather(2, " + those + ")", Twins::full, x -> CHECK.due("none such", x.gather(2, those), -1));
        }
        for (int f : new int[] {5, 9, -1, LEAST, MOST}) {
            Twins.nothing(CHECK, "gather(" + f + ", 0)", Twins::full, x -> CHECK.due("no such floor", x.gather(f, 0), -1));
        }
        CHECK.due("an eleventh", many.gather(0, 1024), -1);
        CHECK.due("bits of nobody", new LeastWished().gather(0, 1), -1);
    }

    private static void states() {
        CHECK.says("Promise 33", "How many such states can come by n RIDES (0 .. 6) or fewer of PLANS; "
                + "the ROW: who can be AT HOME in some of them (bits), FLOORS (bits) on which THE LIFT can be.");
        LeastWished nobody = new LeastWished();
        for (int n = 0; n <= 6; n++) {
            CHECK.told("nobody: states(" + n + ")", nobody.states(n), n + 1, nobody, 0, n == 0 ? 1 : 3);
        }
        LeastWished x = Check.lift(3, "1>-@0;2>0@0");
        CHECK.told("states(0)", x.states(0), 1, x, 0, 1);
        CHECK.told("states(1)", x.states(1), 5, x, 1, 3);
        CHECK.told("states(2)", x.states(2), 11, x, 3, 7);
        String house = "1>-@0;2>0@0";
        for (int n = 0; n <= 6; n++) {
            CHECK.due("states(" + n + ")", x.states(n), new PlanCount(3, house, -1, (w, s) -> w).within(n));
        }
        Check.day(x, "ia;r");
        CHECK.told("one is at home already", x.states(0), 1, x, 1, 2);
        LeastWished ten = Check.lift(9, TermsBounds.TEN);
        CHECK.told("ten can be at home", ten.states(1), 1025, ten, 1023, 3);
        CHECK.due("behind a search that ends early", ten.one(0) * 10000 + ten.states(1), 11025);
        CHECK.due("behind one that ends at once", ten.gather(0, 1023) * 10000 + ten.states(1), 1025);
        Check.law(ten, "-f");
        CHECK.told("the highest floor", ten.states(1), 1025, ten, 0, 1 + 256);
        quiet("states(6)", y -> y.states(6));
    }

    private static void statesOrNot() {
        CHECK.says("Promise 33", "NONE: another n; -3, -4.");
        for (int n : new int[] {7, -1, LEAST, MOST}) {
            Twins.nothing(CHECK, "states(" + n + ")", Twins::full, x -> CHECK.due("states(" + n + ")", x.states(n), -1));
            Twins.nothing(CHECK, "states(" + n + ") by r", Twins::fullByRides, x -> CHECK.due("by r", x.states(n), -1));
        }
        Twins.nothing(CHECK, "states(0) by r", Twins::fullByRides, x -> CHECK.due("by r", x.states(0), -4));
        LeastWished ten = Check.lift(9, TermsBounds.TEN.replace("1>", "8>"));
        Check.law(ten, "d");
        CHECK.told("two rides of ten", ten.states(2), 1 + 2 * 1024, ten, 0, 3);
        CHECK.told("three rides of ten, 3073 states", ten.states(3), -3, ten, 0, 3);
    }

    private static void stuck() {
        CHECK.says("Promise 34", "RIDERS (bits) who come home by no PLAN.");
        CHECK.due("nobody", new LeastWished().stuck(), 0);
        LeastWished x = Check.lift(3, "1>-@0;2>-@0;2>-@2;0>-@1");
        CHECK.due("two", x.stuck(), 6);
        x.set(0, 1, 1);
        CHECK.due("one", x.stuck(), 4);
        LeastWished seven = planned(9, "8>-@0;8>-@0;8>-@0;8>-@0;8>-@0;8>-@0;8>-@0", "d", -1);
        CHECK.due("all seven", seven.stuck(), 127);
        LeastWished home = Check.lift(3, "1>-@0!");
        home.ride();
        CHECK.due("one that is at home is not", home.stuck(), 0);
        CHECK.due("behind a search that ends at once", home.one(0) + home.stuck(), 0);
        home.set(0, 0, 2);
        CHECK.due("though its home is where it could not come", home.stuck(), 0);
        LeastWished tenth = Check.lift(9, TermsBounds.TEN.replace("@0", "@8"));
        CHECK.due("ten whom the lift never reaches", tenth.stuck(), 1023);
        Twins.nothing(CHECK, "stuck()", Twins::full, LeastWished::stuck);
        CHECK.says("Promise 34", "-3, -4.");
        CHECK.due("just 3000", planned(3, JUST, "w", 0).stuck(), 1);
        LeastWished later = planned(3, JUST, "w", 0);
        Check.day(later, "r9;r5");
        CHECK.due("14 rides later the lift is there again", later.count(2), 0);
        CHECK.due("and nothing is left of 14 by 7: just 3000", later.stuck(), 1);
        Twins.nothing(CHECK, "3001", () -> planned(4, MORE, "s-w", 0), y -> CHECK.due("3001", y.stuck(), -3));
        Twins.nothing(CHECK, "by r", () -> planned(4, MORE, "s-w+0*r", 0), y -> CHECK.due("by r", y.stuck(), -4));
        LeastWished nobody = new LeastWished();
        Check.law(nobody, "0*r");
        CHECK.due("nobody, but by r", nobody.stuck(), -4);
    }
}
