/** Promises 41 to 43: odds and two lifts. */
public final class OddsTest {
    private static final Check CHECK = new Check("OddsTest");

    public static void main(String[] args) {
        promise41Odds();
        promise41Ten();
        promise42Likely();
        promise43Split();
        CHECK.end();
    }

    private static void promise41Odds() {
        LeastWished x = Check.lift(3, "1>2@0!;1>2@0;2>1@2");
        CHECK.due("truth 10", x.odds(2), 0);
        CHECK.row("truth 10", x, 1, 1);
        x.set(2, 0, 7);
        CHECK.due("odds(2)", x.odds(2), 0);
        CHECK.row("odds(2)", x, 7, 10);
        CHECK.due("odds(1)", x.odds(1), 0);
        CHECK.row("odds(1)", x, 3, 10);
        CHECK.due("odds(0)", x.odds(0), 0);
        CHECK.row("odds(0)", x, 0, 1);
        CHECK.due("odds(3)", x.odds(3), -1);
        CHECK.due("odds(-1)", x.odds(-1), -1);
        CHECK.row("no row is told", x, 0, 1);
        x.enter(1);
        x.set(2, 1, 4);
        x.odds(2);
        CHECK.row("two: odds(2)", x, 7, 25);
        x.odds(1);
        CHECK.row("two: odds(1)", x, 18, 25);
        x.set(2, 0, 0);
        x.odds(1);
        CHECK.row("one never tells the truth", x, 1, 1);
        CHECK.due("wishes stay", x.of(0, 1), 2);
        x.dog(2);
        Check.day(x, "oab;r6");
        x.odds(2);
        CHECK.row("the dog decides", x, 1, 1);
        x.odds(1);
        CHECK.row("and nobody else", x, 0, 1);
    }

    private static void promise41Ten() {
        LeastWished x = Check.lift(3, "1>-@0!;1>-@0!;1>-@0!;1>-@0!;1>-@0!;1>-@0!;1>-@0!;1>-@0!;1>-@0!;1>-@0!");
        Check.law(x, "(f=1)*(w<10)");
        for (int i = 0; i < 10; i++) {
            x.set(2, i, 1);
        }
        x.odds(1);
        CHECK.row("ten of one tenth", x, 1, 10000000000L);
        x.odds(2);
        CHECK.row("else", x, 9999999999L, 10000000000L);
        for (int i = 0; i < 10; i++) {
            x.set(2, i, 5);
        }
        x.odds(1);
        CHECK.row("ten of a half", x, 1, 1024);
    }

    private static void promise42Likely() {
        LeastWished x = Check.lift(3, "1>2@0!");
        x.set(2, 0, 7);
        CHECK.due("likely()", x.likely(), 2);
        CHECK.row("likely()", x, 7, 10);
        x.set(2, 0, 5);
        CHECK.due("of equal ones the lower", x.likely(), 1);
        CHECK.row("of equal ones the lower", x, 1, 2);
        x.set(2, 0, 2);
        CHECK.due("the told one", x.likely(), 1);
        CHECK.row("the told one", x, 4, 5);
        x.leave(0);
        CHECK.due("nobody in", x.likely(), 1);
        CHECK.row("nobody in", x, 1, 1);
        x.ride();
        CHECK.due("from 1", x.likely(), 0);
        CHECK.row("from 1", x, 1, 1);
    }

    private static void promise43Split() {
        LeastWished x = Check.lift(3, "1>-@0!;2>1@0;1>1@2");
        CHECK.due("both come home", x.split(), 2);
        CHECK.row("both come home", x, 1, 1, 2);
        CHECK.due("nothing changes", x.count(4) + x.count(2) + x.count(3), 1);
        LeastWished y = Check.lift(5, "3>1@0!;1>3@0!;4>-@0");
        CHECK.due("one comes home", y.split(), 1);
        CHECK.row("one comes home", y, 1, 2, 1);
        LeastWished z = Check.lift(3, "2>1@0;2>1@0");
        CHECK.due("all in the second", z.split(), 2);
        CHECK.row("all in the second", z, 0, 1, 2);
        z.dog(1);
        Check.day(z, "r6");
        CHECK.due("the dog decides for both", z.split(), 0);
        CHECK.row("the dog decides for both", z, 0, 1, 1);
        CHECK.due("nobody", new LeastWished().split(), 0);
    }
}
