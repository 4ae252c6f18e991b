/** Boundary cases of promises 35 to 40. */
final class SeenBounds {
    private static final Check CHECK = BoundaryTest.CHECK;
    private static final int LEAST = Integer.MIN_VALUE;
    private static final int MOST = Integer.MAX_VALUE;

    private SeenBounds() {
    }

    static void hold() {
        saw();
        sawAlone();
        sawRefused();
        forget();
        believed();
        fits();
        lies();
        liesOfTwo();
        liesLeastRow();
        truly();
    }

    /** Riders on floor 0 of three, with these wishes: from 0 the lift goes to 1, or to 2 if 1 is wished more. */
    private static LeastWished wishing(String wishes) {
        StringBuilder house = new StringBuilder();
        for (int i = 0; i < wishes.length(); i++) {
            house.append(i == 0 ? "" : ";").append("0>").append(wishes.charAt(i)).append("@0");
        }
        return Check.lift(3, house.toString());
    }

    private static void saw() {
        CHECK.says("Promise 35", "It was seen that THE LIFT went from a FLOOR with those told as bits IN");
        LeastWished x = Twins.full();
        CHECK.due("with all, whoever is at home", x.saw(4, 31, 0), 3);
        CHECK.due("with none", x.saw(0, 0, 4), 4);
        LeastWished ten = Check.lift(9, TermsBounds.TEN);
        CHECK.due("with ten", ten.saw(8, 1023, 0), 1);
        CHECK.due("with the tenth", ten.saw(0, 512, 8), 2);
        CHECK.says("Promise 35", "to another FLOOR: how many such.");
        LeastWished y = wishing("1");
        for (int k = 1; k <= 8; k++) {
            CHECK.due("time " + k, y.saw(0, k % 2, 2), k);
            CHECK.due("count(9)", y.count(9), k);
        }
        CHECK.due("no row", y.count(10), 0);
        CHECK.due("nothing to be undone", y.count(8), 0);
    }

    private static void sawAlone() {
        CHECK.says("Promise 35", "(nobody else anywhere, RIDES 0)");
        LeastWished x = Check.lift(5, "4>-@0;4>-@1;4>-@1;4>-@0!");
        Check.law(x, "s*9+r*f+(n=2)*(f<4)*5");
        x.dog(3);
        Check.day(x, "r6");
        CHECK.due("the dog decides on ride 7", x.stop(), 3);
        CHECK.due("with none: no dog, none stands, no rides", x.saw(0, 0, 1), 1);
        CHECK.due("with one", x.saw(2, 8, 1), 2);
        CHECK.due("with two, of whom none is in now", x.saw(0, 3, 4), 3);
        CHECK.due("with four", x.saw(4, 15, 3), 4);
        CHECK.told("all is so", x.believed(), 1, x, 0);
        CHECK.due("with two to 1", x.saw(0, 3, 1), 5);
        CHECK.told("that is not so", x.believed(), 0, x, 16);
    }

    private static void sawRefused() {
        CHECK.says("Promise 35", "Refused: others, bits of none such, 8.");
        int[][] refused = {{0, 2, 0}, {4, 2, 4}, {-1, 2, 0}, {5, 2, 0}, {0, 2, -1}, {0, 2, 5}, {-1, 2, -1}, {5, 2, 5}, {LEAST, 2, 0},
            {0, 2, MOST}, {0, 32, 1}, {0, 33, 1}, {0, 1024, 1}, {0, -1, 1}, {0, LEAST, 1}, {0, MOST, 1}};
        for (int[] r : refused) {
            String what = "saw(" + r[0] + ", " + r[1] + ", " + r[2] + ")";
            Twins.nothing(CHECK, what, Twins::full, x -> CHECK.due(what, x.saw(r[0], r[1], r[2]), -1));
        }
        CHECK.due("bits of nobody", new LeastWished().saw(0, 1, 1), -1);
        CHECK.due("an eleventh", Check.lift(9, TermsBounds.TEN).saw(0, 1024, 1), -1);
        Twins.nothing(CHECK, "the ninth", () -> {
            LeastWished x = Twins.full();
            for (int k = 3; k <= 8; k++) {
                CHECK.due("time " + k, x.saw(0, 0, 1), k);
            }
            return x;
        }, x -> CHECK.due("the ninth", x.saw(0, 0, 1), -1));
    }

    private static void forget() {
        CHECK.says("Promise 36", "All that was seen is forgotten: how much there was.");
        LeastWished x = wishing("1");
        CHECK.due("nothing", x.forget(), 0);
        for (int k = 0; k < 8; k++) {
            x.saw(0, 1, 1);
        }
        CHECK.due("eight", x.forget(), 8);
        CHECK.due("count(9)", x.count(9), 0);
        CHECK.due("nothing is left", x.forget(), 0);
        CHECK.told("nothing is wrong any more", x.believed(), 1, x, 0);
        CHECK.due("there is room again", x.saw(0, 1, 2), 1);
        CHECK.told("that is so", x.believed(), 1, x, 0);
    }

    private static void believed() {
        CHECK.says("Promise 37", "Whether all that was seen is so by WISHES as they are told: 1, 0; "
                + "the ROW: of what was seen those that are not so (bits).");
        LeastWished nobody = new LeastWished();
        CHECK.told("nothing seen, nobody", nobody.believed(), 1, nobody, 0);
        LeastWished x = wishing("1");
        for (int k = 0; k < 8; k++) {
            x.saw(0, 1, k == 0 || k == 7 ? 1 : 2);
        }
        CHECK.told("the first and the eighth", x.believed(), 0, x, 1 + 128);
        x.set(1, 0, -1);
        CHECK.told("all others", x.believed(), 0, x, 126);
        x.forget();
        for (int k = 0; k < 8; k++) {
            x.saw(0, 1, 2);
        }
        CHECK.told("all eight", x.believed(), 0, x, 255);
        x.set(1, 0, 1);
        CHECK.told("none", x.believed(), 1, x, 0);
        Twins.nothingButTheRow(CHECK, "believed()", Twins::full, LeastWished::believed);
    }

    private static void fits() {
        CHECK.says("Promise 38", "WISHES of one (bits of FLOORS; bit 9: none), all others' as they are told, "
                + "by which all that was seen would be so.");
        for (int n = 2; n <= 9; n++) {
            LeastWished x = new LeastWished();
            x.floors(n);
            x.crowd(5, 1);
            CHECK.due("nothing seen, " + n + " floors", x.fits(0), 512 + (1 << n) - 1);
        }
        LeastWished x = wishing("12");
        x.saw(0, 1, 1);
        CHECK.due("any but 1", x.fits(0), 512 + 4 + 1);
        CHECK.due("the other one's does not help", x.fits(1), 0);
        x.saw(0, 1, 2);
        CHECK.due("none fits both", x.fits(0), 0);
        x.forget();
        x.saw(0, 1, 2);
        CHECK.due("1 alone", x.fits(0), 2);
        LeastWished floors = wishing("1");
        floors.saw(2, 1, 0);
        floors.saw(0, 1, 2);
        CHECK.due("1 by both, from two floors", floors.fits(0), 2);
        floors.saw(1, 1, 0);
        CHECK.due("and from the third", floors.fits(0), 2);
        floors.saw(1, 1, 2);
        CHECK.due("none by both from 1", floors.fits(0), 0);
        LeastWished nine = Check.lift(9, "0>-@0");
        Check.law(nine, "w+(f<8)");
        nine.saw(0, 1, 1);
        CHECK.due("the highest floor alone", nine.fits(0), 256);
        Twins.nothing(CHECK, "fits(1)", Twins::full, y -> y.fits(1));
        CHECK.says("Promise 38", "NONE: none such.");
        for (int i : new int[] {5, 9, 10, 31, 32, -1, LEAST, MOST}) {
            Twins.nothing(CHECK, "fits(" + i + ")", Twins::full, y -> CHECK.due("fits(" + i + ")", y.fits(i), -1));
        }
        CHECK.due("the tenth", Check.lift(2, TermsBounds.TEN).fits(9), 512 + 3);
    }

    private static void lies() {
        CHECK.says("Promise 39", "The fewest RIDERS whose WISHES were others than they told, "
                + "so that all that was seen would be so (2 at most): how many; the ROW: who (bits), "
                + "then their true WISHES, rising by RIDERS (NONE: none)");
        LeastWished nobody = new LeastWished();
        CHECK.told("nothing seen, nobody", nobody.lies(), 0, nobody, 0);
        LeastWished x = wishing("121");
        x.saw(0, 4, 2);
        x.goes(0);
        CHECK.told("all is so, behind a longer row", x.lies(), 0, x, 0);
        x.saw(0, 2, 2);
        CHECK.told("one lies", x.lies(), 1, x, 2, 1);
        x.forget();
        x.saw(0, 4, 1);
        CHECK.told("one had none", x.lies(), 1, x, 4, -1);
        x.forget();
        x.saw(2, 4, 0);
        x.saw(1, 1, 2);
        CHECK.told("from two floors", x.lies(), 1, x, 1, 0);
        LeastWished ten = wishing("1111111111");
        ten.saw(0, 512, 1);
        CHECK.told("the tenth", ten.lies(), 1, ten, 512, -1);
        ten.saw(0, 256, 1);
        CHECK.told("the last two", ten.lies(), 2, ten, 768, -1, -1);
        ten.saw(0, 128, 1);
        CHECK.told("three would be needed: no row is told", ten.lies(), -2, ten, 768, -1, -1);
        Twins.nothingButTheRow(CHECK, "lies()", Twins::full, LeastWished::lies);
    }

    private static void liesOfTwo() {
        CHECK.says("Promise 39", "-2: not by 2.");
        LeastWished x = wishing("1");
        x.saw(0, 1, 1);
        x.saw(0, 1, 2);
        Twins.nothing(CHECK, "lies() that can't be", () -> {
            LeastWished y = Twins.full();
            y.saw(0, 2, 1);
            return y;
        }, y -> CHECK.due("both can't be", y.lies(), -2));
        CHECK.due("both can't be", x.lies(), -2);
        LeastWished nobody = new LeastWished();
        nobody.floors(3);
        nobody.saw(0, 0, 2);
        CHECK.due("nobody could have lied", nobody.lies(), -2);
        LeastWished one = Check.lift(3, "0>-@0");
        one.saw(0, 0, 2);
        CHECK.due("one that was not in", one.lies(), -2);
    }

    private static void liesLeastRow() {
        CHECK.says("Promise 39", "of as few the least such row.");
        LeastWished x = wishing("-1");
        x.saw(0, 3, 1);
        CHECK.told("the lower one, though its wish is more", x.lies(), 1, x, 1, 2);
        LeastWished y = wishing("11");
        y.saw(0, 1, 1);
        CHECK.told("none is less than 0", y.lies(), 1, y, 1, -1);
        LeastWished z = wishing("-2");
        z.saw(0, 1, 1);
        z.saw(0, 2, 2);
        CHECK.told("what is told is no lie", z.lies(), 1, z, 2, 1);
        LeastWished two = wishing("1111");
        two.saw(0, 15, 1);
        CHECK.told("of six pairs the least", two.lies(), 2, two, 3, 2, 2);
        two.saw(0, 6, 2);
        CHECK.told("b and c did not both lie so", two.lies(), 2, two, 9, 2, 2);
        LeastWished none = wishing("--");
        none.saw(0, 1, 2);
        none.saw(0, 2, 2);
        CHECK.told("both have told none", none.lies(), 2, none, 3, 1, 1);
        LeastWished mixed = wishing("1-");
        mixed.saw(0, 1, 1);
        mixed.saw(0, 3, 2);
        CHECK.told("the first one's wish is less, then the second one's", mixed.lies(), 2, mixed, 3, -1, 1);
    }

    private static void truly() {
        CHECK.says("Promise 40", "RIDERS (bits) each of whom, its WISH being that FLOOR, makes all that was seen so, "
                + "WISHES of all others being as they are told, or of one of them another one.");
        LeastWished ten = Check.lift(9, TermsBounds.TEN);
        CHECK.due("nothing seen", ten.truly(0), 1023);
        CHECK.due("the highest floor", ten.truly(8), 1023);
        CHECK.due("nobody", new LeastWished().truly(1), 0);
        LeastWished x = wishing("111");
        x.saw(0, 1, 1);
        CHECK.due("a by 2; others, if a has another one", x.truly(2), 7);
        CHECK.due("not a by 1; others, if a has another one", x.truly(1), 6);
        x.saw(0, 2, 1);
        CHECK.due("a and b, by one another one", x.truly(2), 3);
        CHECK.due("none by 1", x.truly(1), 0);
        x.saw(0, 4, 1);
        CHECK.due("two others would be needed", x.truly(2), 0);
        LeastWished floors = wishing("12");
        floors.saw(2, 1, 0);
        floors.saw(0, 1, 2);
        CHECK.due("from two floors: a by 1; b by any, as a has told it", floors.truly(1), 3);
        CHECK.due("from two floors: not a by 2", floors.truly(2), 2);
        Twins.nothing(CHECK, "truly(1)", Twins::full, y -> y.truly(1));
        CHECK.says("Promise 40", "NONE: no such FLOOR.");
        for (int f : new int[] {5, 9, -1, LEAST, MOST}) {
            Twins.nothing(CHECK, "truly(" + f + ")", Twins::full, y -> CHECK.due("truly(" + f + ")", y.truly(f), -1));
        }
        CHECK.due("of two floors", new LeastWished().truly(2), -1);
    }
}
