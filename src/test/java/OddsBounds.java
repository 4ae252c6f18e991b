/** Boundary cases of promises 41 to 43. */
final class OddsBounds {
    private static final Check CHECK = BoundaryTest.CHECK;
    private static final String TEN_IN = TermsBounds.TEN.replace("@0", "@0!");

    private OddsBounds() {
    }

    static void hold() {
        odds();
        oddsOfTen();
        oddsRefused();
        likely();
        split();
        splitLeastSet();
    }

    private static void odds() {
        CHECK.says("Promise 41", "How likely a FLOOR is the next STOP, if each that is IN wishes its HOME with TRUTH tenths, "
                + "else the WISH it tells, each by itself: the ROW: the fraction. 0;");
        LeastWished nobody = new LeastWished();
        CHECK.told("nobody: the next stop", nobody.odds(1), 0, nobody, 1, 1);
        CHECK.told("nobody: where the lift is", nobody.odds(0), 0, nobody, 0, 1);
        LeastWished x = Check.lift(3, "1>2@0!;1>2@0;1>2@2");
        CHECK.told("truth 10: its home", x.odds(2), 0, x, 1, 1);
        x.set(2, 0, 0);
        CHECK.told("truth 0: its wish", x.odds(2), 0, x, 0, 1);
        CHECK.told("truth 0: its wish", x.odds(1), 0, x, 1, 1);
        x.set(2, 0, 1);
        CHECK.told("truth 1", x.odds(2), 0, x, 1, 10);
        x.set(2, 0, 9);
        CHECK.told("truth 9", x.odds(2), 0, x, 9, 10);
        x.set(2, 1, 0);
        x.set(2, 2, 0);
        CHECK.told("others are not in", x.odds(1), 0, x, 1, 10);
        x.dog(2);
        Check.day(x, "oa;r6;ia");
        CHECK.told("the dog's, however they wish", x.odds(2), 0, x, 1, 1);
        CHECK.told("and no other", x.odds(1), 0, x, 0, 1);
        Twins.nothingButTheRow(CHECK, "odds(1)", Twins::full, y -> y.odds(1));
    }

    private static void oddsOfTen() {
        LeastWished x = Check.lift(3, TEN_IN);
        Check.law(x, "(f=1)*(w<10)");
        long all = 1;
        for (int truth = 1; truth <= 9; truth++) {
            all = 1;
            for (int i = 0; i < 10; i++) {
                x.set(2, i, truth);
                all *= truth;
            }
            long shared = java.math.BigInteger.valueOf(all).gcd(java.math.BigInteger.valueOf(10000000000L)).longValue();
            CHECK.told("ten of truth " + truth, x.odds(1), 0, x, all / shared, 10000000000L / shared);
            CHECK.told("else", x.odds(2), 0, x, (10000000000L - all) / shared, 10000000000L / shared);
        }
        x.set(2, 9, 0);
        CHECK.told("the tenth never", x.odds(1), 0, x, 0, 1);
        CHECK.told("always else", x.odds(2), 0, x, 1, 1);
    }

    private static void oddsRefused() {
        CHECK.says("Promise 41", "NONE: none such.");
        for (int f : new int[] {5, 9, -1, Integer.MIN_VALUE, Integer.MAX_VALUE}) {
            Twins.nothing(CHECK, "odds(" + f + ")", Twins::full, x -> CHECK.due("odds(" + f + ")", x.odds(f), -1));
        }
        LeastWished nine = new LeastWished();
        nine.floors(9);
        CHECK.told("the highest floor", nine.odds(8), 0, nine, 0, 1);
    }

    private static void likely() {
        CHECK.says("Promise 42", "The likeliest next STOP so; of equal ones the lower: it; the ROW: the fraction.");
        LeastWished nobody = new LeastWished();
        CHECK.told("nobody", nobody.likely(), 1, nobody, 1, 1);
        nobody.ride();
        CHECK.told("nobody, from 1", nobody.likely(), 0, nobody, 1, 1);
        LeastWished x = Check.lift(3, "1>2@0!");
        x.set(2, 0, 5);
        CHECK.told("of equal ones the lower", x.likely(), 1, x, 1, 2);
        x.set(2, 0, 6);
        CHECK.told("a tenth more", x.likely(), 2, x, 3, 5);
        x.set(2, 0, 4);
        CHECK.told("a tenth less", x.likely(), 1, x, 3, 5);
        LeastWished nine = Check.lift(9, "8>1@0!");
        Check.law(nine, "-w");
        nine.set(2, 0, 6);
        CHECK.told("the highest floor", nine.likely(), 8, nine, 3, 5);
        nine.set(2, 0, 5);
        CHECK.told("the lower of the two", nine.likely(), 1, nine, 1, 2);
        LeastWished three = Check.lift(9, "5>2@0!;7>3@0!");
        Check.law(three, "-w*f");
        three.set(2, 0, 5);
        three.set(2, 1, 5);
        // 7 by half; else 5 or 3 by a quarter each.
        CHECK.told("the likeliest of three", three.likely(), 7, three, 1, 2);
        Twins.nothingButTheRow(CHECK, "likely()", Twins::full, LeastWished::likely);
    }

    private static void split() {
        CHECK.says("Promise 43", "Those on THE LIFT's FLOOR parted between this lift and another one beside it "
                + "(each goes by THE LAW of those in it alone): the most that come home in that RIDE: how many;");
        LeastWished nobody = new LeastWished();
        CHECK.told("nobody", nobody.split(), 0, nobody, 0, 1, 1);
        LeastWished ten = Check.lift(3, TermsBounds.TEN);
        CHECK.told("ten", ten.split(), 10, ten, 0, 1, 1);
        LeastWished alone = Check.lift(3, "2>-@0!;2>-@0;2>-@1");
        Check.law(alone, "(n=1)*(f=1)");
        CHECK.told("one in each", alone.split(), 2, alone, 1, 2, 2);
        LeastWished none = Check.lift(3, "0>1@0!;0>1@0;1>-@1");
        CHECK.told("none comes home", none.split(), 0, none, 0, 1, 2);
        LeastWished x = Check.lift(3, "1>-@0!;2>1@0;1>1@2");
        CHECK.told("who is in may take the other one, too", x.split(), 2, x, 1, 1, 2);
        Twins.nothingButTheRow(CHECK, "split()", Twins::full, LeastWished::split);
    }

    private static void splitLeastSet() {
        CHECK.says("Promise 43", "the ROW: who takes the first (bits; the least such set), both STOPS.");
        LeastWished x = Check.lift(3, "2>1@0;2>1@0");
        CHECK.told("all take the second", x.split(), 2, x, 0, 1, 2);
        LeastWished y = Check.lift(3, "2>1@0;1>-@0");
        CHECK.told("the least of two sets", y.split(), 2, y, 1, 2, 1);
        LeastWished ten = Check.lift(3, TermsBounds.TEN);
        ten.set(0, 9, 2);
        ten.set(1, 9, 1);
        CHECK.told("nine and the tenth", ten.split(), 10, ten, 511, 1, 2);
        LeastWished dog = Check.lift(3, "1>-@0;2>1@0");
        dog.dog(2);
        Check.day(dog, "r6");
        CHECK.told("the dog decides for both", dog.split(), 1, dog, 0, 2, 2);
    }
}
