/** Promises 35 to 40: stops that were seen. */
public final class SeenTest {
    private static final Check CHECK = new Check("SeenTest");

    public static void main(String[] args) {
        promise35Saw();
        promise36Forget();
        promise37Believed();
        promise37AsItWasSeen();
        promise38Fits();
        promise39Lies();
        promise39TwoLies();
        promise40Truly();
        CHECK.end();
    }

    private static LeastWished three(String wishes) {
        StringBuilder house = new StringBuilder();
        for (int i = 0; i < wishes.length(); i++) {
            house.append(i == 0 ? "" : ";").append("0>").append(wishes.charAt(i)).append("@0");
        }
        return Check.lift(3, house.toString());
    }

    private static void promise35Saw() {
        LeastWished x = three("111");
        int[][] refused = {{0, 0, 0}, {3, 0, 1}, {-1, 0, 1}, {0, 0, 3}, {0, 0, -1}, {0, 8, 1}, {0, -1, 1}, {0, 1 << 20, 1}};
        for (int[] r : refused) {
            CHECK.due("saw(" + r[0] + ", " + r[1] + ", " + r[2] + ")", x.saw(r[0], r[1], r[2]), -1);
        }
        for (int k = 1; k <= 8; k++) {
            CHECK.due("saw, time " + k, x.saw(0, 7, 1), k);
        }
        CHECK.due("saw, time 9", x.saw(0, 7, 1), -1);
        CHECK.due("what was seen", x.count(9), 8);
        CHECK.due("nothing to undo", x.count(8), 0);
    }

    private static void promise36Forget() {
        LeastWished x = three("111");
        CHECK.due("nothing", x.forget(), 0);
        x.saw(0, 7, 1);
        x.saw(1, 0, 2);
        CHECK.due("two", x.forget(), 2);
        CHECK.due("what was seen", x.count(9), 0);
        CHECK.due("no more", x.forget(), 0);
        CHECK.due("anew", x.saw(0, 0, 1), 1);
    }

    private static void promise37Believed() {
        LeastWished x = three("122");
        CHECK.due("nothing seen", x.believed(), 1);
        CHECK.row("nothing seen", x, 0);
        x.saw(0, 1, 2);
        CHECK.due("so", x.believed(), 1);
        CHECK.row("so", x, 0);
        x.saw(0, 1, 1);
        x.saw(0, 0, 1);
        x.saw(1, 0, 2);
        CHECK.due("not so", x.believed(), 0);
        CHECK.row("not so", x, 2 + 8);
        Check.house(x, "0>0@0");
        CHECK.due("more riders", x.believed(), 0);
        CHECK.row("more riders", x, 2 + 8);
        x.set(1, 0, -1);
        CHECK.due("another wish", x.believed(), 0);
        CHECK.row("another wish", x, 1 + 8);
    }

    /** Nobody else anywhere, no dog, no rides: only those that were in count. */
    private static void promise37AsItWasSeen() {
        LeastWished x = Check.lift(5, "1>2@1!".replace("@1!", "@0!") + ";1>2@1;1>2@2");
        Check.day(x, "r6");
        x.dog(4);
        CHECK.due("the dog decides now", x.stop(), 4);
        Check.law(x, "s*9+r*f+d");
        x.saw(0, 7, 1);
        x.saw(0, 0, 1);
        x.saw(3, 2, 2);
        CHECK.due("none stands, no rides, no dog", x.believed(), 1);
        Check.law(x, "(n=2)*(f<3)-(l=4)*f");
        x.forget();
        x.saw(0, 3, 3);
        x.saw(0, 5, 3);
        x.saw(0, 7, 1);
        x.saw(4, 4, 3);
        CHECK.due("n and l as it was seen", x.believed(), 1);
        x.saw(0, 4, 3);
        CHECK.due("and one that is not so", x.believed(), 0);
        CHECK.row("and one that is not so", x, 16);
    }

    private static void promise38Fits() {
        LeastWished x = three("12");
        CHECK.due("nothing seen", x.fits(0), 512 + 7);
        x.saw(0, 1, 1);
        CHECK.due("not 1", x.fits(0), 512 + 5);
        CHECK.due("none helps", x.fits(1), 0);
        x.set(1, 0, -1);
        CHECK.due("all fit", x.fits(1), 512 + 7);
        x.saw(0, 3, 2);
        CHECK.due("with the other one's as it is told", x.fits(0), 0);
        x.set(1, 1, 1);
        CHECK.due("fits(0)", x.fits(0), 512 + 1);
        CHECK.due("fits(1)", x.fits(1), 2);
        x.forget();
        x.saw(2, 1, 1);
        x.saw(1, 1, 2);
        CHECK.due("from where it was seen", x.fits(0), 1);
        x.forget();
        CHECK.due("none such", x.fits(2), -1);
        CHECK.due("none such", x.fits(-1), -1);
        CHECK.due("none such", x.fits(Integer.MAX_VALUE), -1);
        CHECK.due("wishes stay", x.of(0, 1) * 10 + x.of(1, 1), -9);
    }

    private static void promise39Lies() {
        LeastWished x = three("121");
        CHECK.due("nothing seen", x.lies(), 0);
        CHECK.row("nothing seen", x, 0);
        x.saw(0, 4, 2);
        CHECK.due("all is so", x.lies(), 0);
        CHECK.row("all is so", x, 0);
        x.saw(0, 2, 2);
        CHECK.due("one lies", x.lies(), 1);
        CHECK.row("one lies", x, 2, 1);
        x.forget();
        x.saw(0, 4, 1);
        CHECK.due("another one lies", x.lies(), 1);
        CHECK.row("another one lies", x, 4, -1);
        x.forget();
        x.saw(0, 5, 1);
        CHECK.due("one of two", x.lies(), 1);
        CHECK.row("the lower one, the least wish", x, 1, 2);
        x.forget();
        x.saw(0, 1, 1);
        x.saw(0, 1, 2);
        CHECK.due("both can't be", x.lies(), -2);
        CHECK.row("no row is told", x, 1, 2);
        CHECK.due("wishes stay", x.of(0, 1) * 100 + x.of(1, 1) * 10 + x.of(2, 1), 121);
    }

    private static void promise39TwoLies() {
        LeastWished x = three("1111");
        x.saw(0, 1, 1);
        x.saw(0, 2, 1);
        CHECK.due("two lie", x.lies(), 2);
        CHECK.row("two lie", x, 3, -1, -1);
        x.saw(0, 4, 1);
        CHECK.due("not by two", x.lies(), -2);
        x.forget();
        x.saw(0, 4, 1);
        x.saw(0, 8, 1);
        CHECK.due("the upper two", x.lies(), 2);
        CHECK.row("the upper two", x, 12, -1, -1);
        x.forget();
        x.saw(0, 15, 1);
        CHECK.due("any two", x.lies(), 2);
        CHECK.row("of which the least", x, 3, 2, 2);
        x.forget();
        x.saw(0, 15, 1);
        x.saw(0, 6, 2);
        CHECK.due("b and c did not both lie", x.lies(), 2);
        CHECK.row("the least that is so", x, 9, 2, 2);
        LeastWished y = three("--");
        y.saw(0, 1, 2);
        y.saw(0, 2, 2);
        CHECK.due("none is no lie", y.lies(), 2);
        CHECK.row("none is no lie", y, 3, 1, 1);
    }

    private static void promise40Truly() {
        LeastWished x = three("111");
        CHECK.due("nothing seen", x.truly(0), 7);
        x.saw(0, 1, 1);
        x.saw(0, 2, 1);
        CHECK.due("truly(2)", x.truly(2), 3);
        CHECK.due("truly(1)", x.truly(1), 0);
        x.set(1, 1, 0);
        CHECK.due("one is mended: truly(1)", x.truly(1), 4);
        CHECK.due("one is mended: truly(2)", x.truly(2), 7);
        CHECK.due("one is mended: truly(0)", x.truly(0), 7);
        x.saw(0, 4, 1);
        CHECK.due("one more: truly(2)", x.truly(2), 1 + 4);
        CHECK.due("truly(3)", x.truly(3), -1);
        CHECK.due("truly(-1)", x.truly(-1), -1);
        CHECK.due("nobody", new LeastWished().truly(1), 0);
    }
}
