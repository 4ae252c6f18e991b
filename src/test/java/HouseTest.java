/** Promises 1 to 11: the house. */
public final class HouseTest {
    private static final Check CHECK = new Check("HouseTest");

    public static void main(String[] args) {
        promise1NewObject();
        promise2Sign();
        promise3End();
        promise4Floors();
        promise5House();
        promise5HouseErrors();
        promise6LawValues();
        promise6LawErrors();
        promise6LawNames();
        promise7Of();
        promise8Set();
        promise9Sheet();
        promise10Dog();
        promise11Crowd();
        CHECK.end();
    }

    private static void promise1NewObject() {
        LeastWished x = new LeastWished();
        int[] due = {2, 0, 0, 0, 0, 0, 0, -1, 0, 0, 0, 0};
        for (int what = 0; what < due.length; what++) {
            CHECK.due("new: count(" + what + ")", x.count(what), due[what]);
        }
        CHECK.due("new: stop()", x.stop(), 1);
        CHECK.due("new: worthOf(1)", x.worthOf(1), 0);
        CHECK.due("NONE", LeastWished.NONE, -1);
        CHECK.none("new: row(0)", () -> x.row(0));
    }

    private static void promise2Sign() {
        LeastWished x = new LeastWished();
        for (int k = 1; k <= 20; k++) {
            CHECK.due("sign, time " + k, x.sign(-1), 4 * k);
        }
        CHECK.due("sign beyond 80", x.sign(0), -1);
        CHECK.due("signs then", x.count(11), 80);
        x.end(77);
        CHECK.due("sign on 77", x.sign(0), -1);
        CHECK.due("signs then", x.count(11), 77);
        x.end(76);
        CHECK.due("sign on 76", x.sign(0), 80);
        x.end(0);
        x.sign(('1' << 24) | ('>' << 16) | ('0' << 8) | '@');
        x.sign('0' << 24);
        x.end(5);
        CHECK.due("the highest byte first", x.house(), 1);
        CHECK.due("home", x.of(0, 0), 1);
    }

    private static void promise3End() {
        LeastWished x = new LeastWished();
        CHECK.due("end(0) of nothing", x.end(0), true);
        CHECK.due("end(1) of nothing", x.end(1), false);
        x.sign(0);
        CHECK.due("end(5) of 4", x.end(5), false);
        CHECK.due("end(-1)", x.end(-1), false);
        CHECK.due("end(least)", x.end(Integer.MIN_VALUE), false);
        CHECK.due("signs then", x.count(11), 4);
        CHECK.due("end(4) of 4", x.end(4), true);
        CHECK.due("end(3)", x.end(3), true);
        CHECK.due("signs then", x.count(11), 3);
        Check.text(x, "w+wf");
        x.end(3);
        CHECK.due("the first signs stay", x.law(), 0);
    }

    private static void promise4Floors() {
        LeastWished x = Check.lift(5, "3>1@0!;1>3@0!;4>-@0");
        Check.law(x, "f");
        x.dog(3);
        x.saw(0, 1, 2);
        x.keep(0);
        x.ride();
        Check.text(x, "r");
        for (int n : new int[] {-1, 0, 1, 10, Integer.MAX_VALUE, Integer.MIN_VALUE}) {
            CHECK.due("floors(" + n + ")", x.floors(n), false);
        }
        CHECK.due("floors stay", x.count(0), 5);
        CHECK.due("riders stay", x.count(1), 3);
        CHECK.due("what can be undone stays", x.count(8), 1);
        CHECK.due("floors(9)", x.floors(9), true);
        int[] due = {9, 0, 0, 0, 0, 0, 0, -1, 0, 0, 1, 1};
        for (int what = 0; what < due.length; what++) {
            CHECK.due("floors(9): count(" + what + ")", x.count(what), due[what]);
        }
        CHECK.due("the law stays", x.worthOf(8), 8);
        CHECK.due("nothing is undone", x.undo(), -1);
        CHECK.due("nothing is kept", x.again(0), false);
        Check.house(x, "3>-@0");
        CHECK.due("one that comes then has no rides", x.of(0, 5), 0);
        CHECK.due("nor a wish", x.of(0, 1), -1);
        CHECK.due("floors(2)", x.floors(2), true);
        CHECK.due("floors then", x.count(0), 2);
    }

    private static void promise5House() {
        LeastWished x = new LeastWished();
        x.floors(5);
        CHECK.due("empty house", x.house(), 0);
        CHECK.due("three lines", Check.house(x, "3>1@0!;1>3@4;4>-@0"), 3);
        CHECK.due("the text is empty then", x.count(11), 0);
        CHECK.due("riders", x.count(1), 3);
        CHECK.due("home", x.of(1, 0), 1);
        CHECK.due("wish", x.of(1, 1), 3);
        CHECK.due("no wish", x.of(2, 1), -1);
        CHECK.due("truth", x.of(1, 2), 10);
        CHECK.due("where", x.of(1, 3), 4);
        CHECK.due("in", x.of(0, 4), 1);
        CHECK.due("not in", x.of(2, 4), 0);
        CHECK.due("more come", Check.house(x, "0>0@0"), 1);
        CHECK.due("behind the others", x.of(3, 0), 0);
        CHECK.due("stands where its home is", x.of(3, 3), 0);
        x.ride();
        CHECK.due("in where the lift is now", Check.house(x, "0>1@" + x.count(2) + "!"), 1);
        CHECK.due("riders", x.count(1), 5);
        CHECK.due("what was is forgotten", x.undo(), -1);
        x.ride();
        CHECK.due("an empty one forgets nothing", Check.house(x, ""), 0);
        CHECK.due("so it can be undone", x.count(8), 1);
        CHECK.due("a wrong one", Check.house(x, "0>1@0;"), -7);
        CHECK.due("forgets nothing", x.count(8), 1);
    }

    private static void promise5HouseErrors() {
        String[] texts = {"x", "5>1@0", "-", "1", "1x1@0", "1>", "1>5@0", "1>x", "1>1", "1>1x", "1>1@", "1>1@5", "1>1@-",
            "1>1@0x", "1>1@1!", "1>1@0!x", "1>1@0!!", "1>1@0;", "1>1@0;;", "1>1@0!;", "1>1@0!;x", "1>1@0 ", "1>1@0;1>1@3!",
            ";", "1>--@0", "1>1@0;1>1@0;1>1@9"};
        int[] at = {0, 0, 0, 1, 1, 2, 2, 2, 3, 3, 4, 4, 4,
            5, 5, 6, 6, 6, 6, 7, 7, 5, 11,
            0, 3, 16};
        LeastWished x = new LeastWished();
        x.floors(5);
        for (int k = 0; k < texts.length; k++) {
            CHECK.due("house " + texts[k], Check.house(x, texts[k]), -1 - at[k]);
            CHECK.due("nobody came by " + texts[k], x.count(1), 0);
            CHECK.due("the text is empty behind " + texts[k], x.count(11), 0);
        }
        String ten = "1>1@0;1>1@0;1>1@0;1>1@0;1>1@0;1>1@0;1>1@0;1>1@0;1>1@0;1>1@0";
        CHECK.due("eleven lines", Check.house(x, ten + ";1>1@0"), -1 - 60);
        CHECK.due("ten and a ;", Check.house(x, ten + ";"), -1 - 60);
        CHECK.due("ten and a ; and a wrong sign", Check.house(x, ten + ";x"), -1 - 60);
        CHECK.due("nobody came", x.count(1), 0);
        String tenIn = ten.replace("@0", "@0!");
        CHECK.due("ten in and more", Check.house(x, tenIn + ";1>1@0!;1>"), -1 - 70);
        CHECK.due("ten lines", Check.house(x, tenIn), 10);
        CHECK.due("no room at all", Check.house(x, "1>1@0"), -1);
        CHECK.due("no room, but nobody", Check.house(x, ""), 0);
        LeastWished y = Check.lift(5, "1>1@0;1>1@0;1>1@0;1>1@0;1>1@0;1>1@0;1>1@0;1>1@0;1>1@0");
        CHECK.due("room for one", Check.house(y, "2>2@2;2>2@2"), -7);
        CHECK.due("nine", y.count(1), 9);
        CHECK.due("room for one", Check.house(y, "2>2@2"), 1);
        LeastWished two = new LeastWished();
        CHECK.due("of two floors there is no 2", Check.house(two, "1>2@0"), -3);
    }

    private static int worth(LeastWished x, String law, int f) {
        CHECK.due("law " + law, Check.law(x, law), 0);
        return x.worthOf(f);
    }

    private static void promise6LawValues() {
        LeastWished x = new LeastWished();
        x.floors(5);
        String[] laws = {"7-2-1", "8/3*2", "2+3*4", "-7/2", "7/-2", "1/0", "-1/0*5", "2<3", "3<2", "3>2", "2=2", "1+1=2",
            "2=1+1", "(2<3)<1", "--5", "2*-3", "---5", "1-(2-3)", "-(2+3)*2", "007", "((((4))))", "(1)+(2)", "1<2+3", "9-4>5",
            "9-(4>5)", "2--3", "100/7/2", "100/(7/2)", "999*999*999*999", "-999*999*999*3"};
        int[] due = {4, 4, 14, -3, -3, 0, 0, 1, 0, 1, 1, 1,
            1, 0, 5, -6, -5, 2, -10, 7, 4, 3, 1, 0,
            9, 5, 7, 33, (int) 996005996001L, (int) -2991008997L};
        for (int k = 0; k < laws.length; k++) {
            CHECK.due("worth by " + laws[k], worth(x, laws[k], 1), due[k]);
        }
        CHECK.due("none", Check.law(x, ""), 0);
        Check.house(x, "1>3@0!");
        CHECK.due("none is w", x.worthOf(3), 1);
    }

    private static void promise6LawErrors() {
        String[] texts = {"x", ")", "w)", "w<w<w", "w<w+1=2", "(((((w)))))", "1234", "w+", "(w", "()", "w w", "2w", "w2", "ww",
            "*w", "w+*w", "(", "-", "w<", "w=<w", "(w<w<w)", "(w)(w)", "(w)w", "(w)2", "2(w)", "~w", "w!", "+w", "12 ", "f)",
            "w<(w<w)<w", "W", "((((w)))", "((((w))))))"};
        int[] at = {0, 0, 1, 3, 5, 4, 3, 2, 2, 1, 1, 1, 1, 1,
            0, 2, 1, 1, 2, 2, 4, 3, 3, 3, 1, 0, 1, 0, 2, 1,
            7, 0, 8, 9};
        LeastWished x = new LeastWished();
        x.floors(5);
        Check.law(x, "f+r");
        for (int k = 0; k < texts.length; k++) {
            CHECK.due("law " + texts[k], Check.law(x, texts[k]), -1 - at[k]);
            CHECK.due("the text is empty behind " + texts[k], x.count(11), 0);
            CHECK.due("the law stays behind " + texts[k], x.worthOf(4), 4);
        }
        CHECK.due("it has an r still", x.all(), -4);
        String dashes = "-".repeat(39);
        CHECK.due("39 dashes and a w", Check.law(x, dashes + "w"), 0);
        CHECK.due("39 dashes: its end", Check.law(x, dashes), -40);
        CHECK.due("40 dashes: its end", Check.law(x, dashes + "-"), -41);
        CHECK.due("40 dashes and a w", Check.law(x, dashes + "-w"), -41);
        CHECK.due("40 signs and a wrong one", Check.law(x, dashes + "wx"), -41);
        CHECK.due("a wrong one at 39", Check.law(x, dashes + "xw"), -40);
        CHECK.due("80 signs, wrong at 2", Check.law(x, "ff" + "-".repeat(78)), -2);
        CHECK.due("80 signs", Check.law(x, "f+".repeat(40)), -41);
        CHECK.due("39 signs", Check.law(x, "f+".repeat(19) + "f"), 0);
        CHECK.due("its worth", x.worthOf(2), 40);
        CHECK.due("39 signs of ( at the end", Check.law(x, "f+".repeat(19) + "(("), -41);
    }

    private static void promise6LawNames() {
        LeastWished x = Check.lift(7, "6>1@0!;6>1@0!;6>2@0!;6>1@0;6>3@3;6>3@3");
        x.ride();
        CHECK.due("the lift", x.count(2), 3);
        CHECK.due("f", worth(x, "f", 5), 5);
        CHECK.due("w of 1", worth(x, "w", 1), 2);
        CHECK.due("w of 2", worth(x, "w", 2), 1);
        CHECK.due("w of 3: those that stand do not count", worth(x, "w", 3), 0);
        CHECK.due("d below", worth(x, "d", 1), 2);
        CHECK.due("d above", worth(x, "d", 6), 3);
        CHECK.due("d here", worth(x, "d", 3), 0);
        CHECK.due("s here", worth(x, "s", 3), 2);
        CHECK.due("s of 0", worth(x, "s", 0), 1);
        CHECK.due("s of 1", worth(x, "s", 1), 0);
        CHECK.due("n", worth(x, "n", 1), 3);
        CHECK.due("r", worth(x, "r", 1), 1);
        CHECK.due("l", worth(x, "l", 1), 3);
        CHECK.due("all", worth(x, "f*100+w*10+d-s+n*r*l", 1), 100 + 20 + 2 - 0 + 9);
        x.enter(4);
        CHECK.due("one less stands", worth(x, "s", 3), 1);
        CHECK.due("one more is in", worth(x, "n", 3), 4);
        CHECK.due("and wishes", worth(x, "w", 3), 1);
    }

    private static void promise7Of() {
        LeastWished x = Check.lift(5, "3>1@0!;1>3@0!;4>-@2");
        int[][] due = {{3, 1, 10, 0, 1, 0}, {1, 3, 10, 0, 1, 0}, {4, -1, 10, 2, 0, 0}};
        for (int i = 0; i < 3; i++) {
            for (int what = 0; what < 6; what++) {
                CHECK.due("of(" + i + ", " + what + ")", x.of(i, what), due[i][what]);
            }
            int k = i;
            CHECK.none("of(" + i + ", 6)", () -> x.of(k, 6));
            CHECK.none("of(" + i + ", -1)", () -> x.of(k, -1));
        }
        CHECK.none("of(3, 0)", () -> x.of(3, 0));
        CHECK.none("of(-1, 0)", () -> x.of(-1, 0));
        CHECK.none("of(10, 0)", () -> x.of(10, 0));
        CHECK.none("of(most, 0)", () -> x.of(Integer.MAX_VALUE, 0));
        x.leave(0);
        CHECK.due("stands", x.of(0, 4), 0);
        CHECK.due("on its floor", x.of(0, 3), 0);
        x.ride();
        CHECK.due("at home", x.of(1, 3), -1);
        CHECK.due("not in", x.of(1, 4), 0);
        CHECK.due("rides of it", x.of(1, 5), 1);
        CHECK.due("rides of one that stood", x.of(0, 5), 0);
    }

    private static void promise8Set() {
        LeastWished x = Check.lift(5, "3>1@0!;1>3@0!");
        CHECK.due("set home", x.set(0, 0, 4), true);
        CHECK.due("home", x.of(0, 0), 4);
        CHECK.due("set wish", x.set(1, 0, 0), true);
        CHECK.due("wish", x.of(0, 1), 0);
        CHECK.due("set no wish", x.set(1, 0, -1), true);
        CHECK.due("no wish", x.of(0, 1), -1);
        CHECK.due("set truth", x.set(2, 1, 0), true);
        CHECK.due("truth", x.of(1, 2), 0);
        CHECK.due("set truth 10", x.set(2, 1, 10), true);
        int[][] refused = {{0, 0, 5}, {0, 0, -1}, {1, 0, 5}, {1, 0, -2}, {2, 0, 11}, {2, 0, -1}, {3, 0, 1}, {-1, 0, 1},
            {0, 2, 1}, {0, -1, 1}, {1, 10, 1}, {2, Integer.MIN_VALUE, 1}};
        for (int[] r : refused) {
            CHECK.due("set(" + r[0] + ", " + r[1] + ", " + r[2] + ")", x.set(r[0], r[1], r[2]), false);
        }
        CHECK.due("home stays", x.of(0, 0), 4);
        CHECK.due("wish stays", x.of(0, 1), -1);
        CHECK.due("truth stays", x.of(0, 2), 10);
        x.rides(1);
        CHECK.due("set home where the lift is", x.set(0, 0, x.count(2)), true);
        CHECK.due("it is in all the same", x.of(0, 4), 1);
        CHECK.due("set home of one at home", x.set(0, 1, 4), true);
        CHECK.due("it is at home all the same", x.of(1, 3), -1);
    }

    private static void wishes(String what, LeastWished x, int... due) {
        for (int i = 0; i < due.length; i++) {
            CHECK.due(what + ": wish of " + i, x.of(i, 1), due[i]);
        }
    }

    private static void promise9Sheet() {
        LeastWished x = Check.lift(5, "3>1@0;1>3@0;4>2@0;4>2@0");
        CHECK.due("another kind", x.sheet(4, 0, 0, 0), -1);
        CHECK.due("another kind", x.sheet(-1, 0, 0, 0), -1);
        CHECK.due("above 10", x.sheet(2, 11, 0, 0), -1);
        CHECK.due("above 10, a missing one", x.sheet(3, 11, 0, 0), -1);
        CHECK.due("another kind, below 0", x.sheet(4, -1, 0, 0), -1);
        for (int kind = 0; kind < 3; kind++) {
            CHECK.due("below 0, kind " + kind, x.sheet(kind, -1, 0, 0), -2);
        }
        wishes("as they were", x, 1, 3, 2, 2);
        CHECK.due("ints", x.sheet(2, 4, 1, 2), 2);
        wishes("ints", x, 1, 3, -1, -1);
        CHECK.due("fewer", x.sheet(2, 2, 4, -4), 2);
        wishes("fewer", x, 4, 0, -1, -1);
        CHECK.due("ten", x.sheet(2, 10, 0, 1), 4);
        wishes("ten", x, 0, 1, 2, 3);
        CHECK.due("bytes", x.sheet(0, 4, 256 + 2, 255), 3);
        wishes("bytes", x, 2, 1, 0, -1);
        CHECK.due("shorts", x.sheet(1, 4, 65536 * 5 + 3, 65537), 2);
        wishes("shorts", x, 3, 4, -1, -1);
        CHECK.due("shorts are no bytes", x.sheet(1, 4, 256, 0), 0);
        CHECK.due("bytes are", x.sheet(0, 4, 256, 0), 4);
        CHECK.due("ints are no shorts", x.sheet(2, 4, 65536, 0), 0);
        CHECK.due("ints go round", x.sheet(2, 3, Integer.MAX_VALUE, Integer.MIN_VALUE + 3), 1);
        wishes("ints go round", x, -1, 2, -1, -1);
        CHECK.due("missing", x.sheet(3, 4, 1, 0), -3);
        wishes("missing", x, -1, -1, -1, -1);
        x.sheet(2, 4, 1, 0);
        CHECK.due("missing, below 0", x.sheet(3, -5, 1, 0), -3);
        wishes("missing", x, -1, -1, -1, -1);
        x.sheet(2, 4, 1, 0);
        CHECK.due("no entries", x.sheet(0, 0, 1, 0), 0);
        wishes("no entries", x, -1, -1, -1, -1);
    }

    private static void promise10Dog() {
        LeastWished x = new LeastWished();
        x.floors(5);
        CHECK.due("dog(4)", x.dog(4), true);
        CHECK.due("its floor", x.count(7), 4);
        CHECK.due("dog(5)", x.dog(5), false);
        CHECK.due("dog(-2)", x.dog(-2), false);
        CHECK.due("its floor stays", x.count(7), 4);
        int[] stops = {1, 0, 1, 0, 1, 0, 4, 3, 2, 1, 0, 1, 0, 4, 3};
        for (int k = 0; k < stops.length; k++) {
            CHECK.due("with a dog: ride " + (k + 1), x.ride(), stops[k]);
        }
        CHECK.due("dog(NONE)", x.dog(-1), true);
        CHECK.due("no floor", x.count(7), -1);
        LeastWished y = new LeastWished();
        y.floors(5);
        y.dog(0);
        int[] others = {1, 0, 1, 0, 1, 0, 1, 0};
        for (int k = 0; k < others.length; k++) {
            CHECK.due("the dog where the lift is: ride " + (k + 1), y.ride(), others[k]);
        }
    }

    private static void promise11Crowd() {
        LeastWished x = new LeastWished();
        x.floors(7);
        for (int n : new int[] {-1, 11, Integer.MIN_VALUE, Integer.MAX_VALUE}) {
            CHECK.due("crowd(1, " + n + ")", x.crowd(1, n), -1);
        }
        CHECK.due("crowd(1, 0)", x.crowd(1, 0), 0);
        CHECK.due("crowd(-77, 4)", x.crowd(-77, 4), 4);
        long r = -77L & 0xFFFFFFFFL;
        for (int i = 0; i < 4; i++) {
            for (int what : new int[] {0, 1, 3}) {
                r = (r * 1103515245L + 12345L) & 0xFFFFFFFFL;
                CHECK.due("drawn: of(" + i + ", " + what + ")", x.of(i, what), (r / 65536) % 7);
            }
            CHECK.due("truth", x.of(i, 2), 10);
            CHECK.due("it stands", x.of(i, 4), 0);
        }
        x.ride();
        CHECK.due("no more", x.crowd(5, 3), 0);
        CHECK.due("as many", x.crowd(5, 4), 0);
        CHECK.due("nothing is forgotten", x.count(8), 1);
        x.keep(0);
        CHECK.due("till there are ten", x.crowd(1, 10), 6);
        CHECK.due("the first of them is drawn from the seed", x.of(4, 0), 16838 % 7);
        CHECK.due("riders", x.count(1), 10);
        CHECK.due("all is forgotten", x.count(8), 0);
        CHECK.due("what was kept, too", x.again(0), false);
    }
}
