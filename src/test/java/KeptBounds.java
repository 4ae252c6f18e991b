/** Boundary cases of promises 44 to 47. */
final class KeptBounds {
    private static final Check CHECK = BoundaryTest.CHECK;
    private static final int LEAST = Integer.MIN_VALUE;
    private static final int MOST = Integer.MAX_VALUE;

    private KeptBounds() {
    }

    static void hold() {
        keep();
        keepRefused();
        again();
        againRefused();
        againSinceRidersCame();
        count();
        row();
        rowRefused();
    }

    private static void keep() {
        CHECK.says("Promise 44", "Where each is, THE LIFT, RIDES, how many RIDES each was IN, WISHES are kept under a number 0 .. 2: true.");
        for (int i = 0; i < 3; i++) {
            LeastWished x = Check.lift(5, "3>1@0!;1>3@0!;4>-@0");
            x.ride();
            x.leave(1);
            CHECK.due("keep(" + i + ")", x.keep(i), true);
            CHECK.due("nothing else changes", x.count(8), 2);
            Check.day(x, "wa4;wb-;r9;oa;r");
            CHECK.due("again(" + i + ")", x.again(i), true);
            int[][] due = {{1, 2, 1, 1}, {3, 2, 0, 1}, {-1, 0, 0, 0}};
            for (int k = 0; k < 3; k++) {
                CHECK.due("wish of " + k, x.of(k, 1), due[k][0]);
                CHECK.due("where " + k + " is", x.of(k, 3), due[k][1]);
                CHECK.due("whether " + k + " is in", x.of(k, 4), due[k][2]);
                CHECK.due("rides of " + k, x.of(k, 5), due[k][3]);
            }
            CHECK.due("the lift", x.count(2), 2);
            CHECK.due("rides", x.count(3), 1);
        }
        LeastWished nobody = new LeastWished();
        CHECK.due("nobody", nobody.keep(0), true);
        nobody.ride();
        CHECK.due("nobody", nobody.again(0), true);
        CHECK.due("no ride any more", nobody.count(3), 0);
    }

    private static void keepRefused() {
        CHECK.says("Promise 44", "Refused: others.");
        for (int i : new int[] {3, -1, 31, LEAST, MOST}) {
            Twins.nothing(CHECK, "keep(" + i + ")", Twins::full, x -> CHECK.due("keep(" + i + ")", x.keep(i), false));
        }
    }

    private static void again() {
        CHECK.says("Promise 45", "They are as they were kept under a number.");
        LeastWished x = new LeastWished();
        for (int i = 0; i < 3; i++) {
            x.keep(i);
            x.ride();
        }
        for (int i : new int[] {2, 0, 1, 1, 2, 0}) {
            CHECK.due("again(" + i + ")", x.again(i), true);
            CHECK.due("rides", x.count(3), i);
            CHECK.due("nothing can be undone", x.undo(), -1);
            x.rides(60);
            x.ride();
        }
        x.keep(1);
        int rides = x.count(3);
        x.ride();
        x.again(1);
        CHECK.due("what was kept last", x.count(3), rides);
        LeastWished home = Check.lift(3, "1>-@0!");
        home.keep(2);
        home.ride();
        home.set(0, 0, 2);
        home.set(2, 0, 3);
        home.dog(1);
        home.saw(0, 0, 1);
        home.again(2);
        CHECK.due("one is not at home any more", home.count(6) * 10 + home.count(4), 1);
        CHECK.due("its home is as told since", home.of(0, 0), 2);
        CHECK.due("its truth, too", home.of(0, 2), 3);
        CHECK.due("the dog, too", home.count(7), 1);
        CHECK.due("what was seen, too", home.count(9), 1);
    }

    private static void againRefused() {
        CHECK.says("Promise 45", "Refused: nothing kept,");
        for (int i : new int[] {1, 3, -1, 31, LEAST, MOST}) {
            Twins.nothing(CHECK, "again(" + i + ")", Twins::full, x -> CHECK.due("again(" + i + ")", x.again(i), false));
        }
        LeastWished x = new LeastWished();
        for (int i = 0; i < 3; i++) {
            CHECK.due("again(" + i + ")", x.again(i), false);
        }
        x.keep(1);
        CHECK.due("another one was kept", x.again(0) || x.again(2), false);
        CHECK.due("that one", x.again(1), true);
    }

    private static void againSinceRidersCame() {
        CHECK.says("Promise 45", "RIDERS came or FLOORS were told since.");
        since("a line", x -> Check.house(x, "1>1@1"), false);
        since("a crowd of one", x -> x.crowd(1, 6), false);
        since("floors as before", x -> x.floors(5), false);
        since("other floors", x -> x.floors(2), false);
        since("no line", x -> Check.house(x, ""), true);
        since("a house that is refused", x -> Check.house(x, "1>1@1;1"), true);
        since("a crowd of none", x -> x.crowd(1, 5), true);
        since("a crowd that is refused", x -> x.crowd(1, 11), true);
        since("floors that are refused", x -> x.floors(10), true);
        since("rides", x -> x.rides(60), true);
        since("wishes", x -> x.sheet(3, 0, 0, 0), true);
        since("what is set", x -> x.set(0, 1, 1), true);
        since("a law", x -> Check.law(x, "f"), true);
        LeastWished x = Twins.full();
        x.crowd(1, 7);
        x.keep(0);
        x.ride();
        CHECK.due("kept anew", x.again(0), true);
        CHECK.due("the other one not", x.again(2), false);
    }

    private static void since(String what, Twins.Act call, boolean can) {
        LeastWished x = Twins.full();
        call.on(x);
        int undone = x.count(8);
        CHECK.due(what + ": again(0)", x.again(0), can);
        CHECK.due(what + ": what can be undone", x.count(8), can ? 0 : undone);
        CHECK.due(what + ": again(2)", x.again(2), can);
    }

    private static void count() {
        CHECK.says("Promise 46", "What 0: FLOORS, 1: RIDERS, 2: the FLOOR of THE LIFT, 3: RIDES, 4: who is IN (bits), "
                + "5: who STANDS on THE LIFT's FLOOR (bits), 6: who is AT HOME (bits), 7: THE DOG's FLOOR (NONE), "
                + "8: what can be undone, 9: what was seen, 10: numbers of the ROW, 11: signs of THE TEXT.");
        LeastWished x = Twins.full();
        int[] due = {5, 5, 2, 1, 2, 16, 1, 3, 2, 2, 5, 5};
        for (int what = 0; what < due.length; what++) {
            CHECK.due("count(" + what + ")", x.count(what), due[what]);
        }
        LeastWished ten = Check.lift(9, TermsBounds.TEN);
        CHECK.due("all ten stand", ten.count(5), 1023);
        Check.day(ten, "iabcdefghij");
        CHECK.due("all ten are in", ten.count(4), 1023);
        CHECK.due("none stands", ten.count(5), 0);
        ten.ride();
        CHECK.due("all ten are at home", ten.count(6), 1023);
        CHECK.due("none is in", ten.count(4), 0);
        ten.dog(8);
        CHECK.due("the highest dog", ten.count(7), 8);
        for (int k = 0; k < 20; k++) {
            ten.sign(0);
            ten.ride();
            ten.saw(0, 0, 1);
        }
        CHECK.due("20 can be undone", ten.count(8), 20);
        CHECK.due("8 were seen", ten.count(9), 8);
        CHECK.due("80 signs", ten.count(11), 80);
        ten.rests(1);
        CHECK.due("the longest row", ten.count(10), 12);
        ten.then(12);
        CHECK.due("another one as long", ten.count(10), 12);
        ten.then(0);
        CHECK.due("an empty row", ten.count(10), 0);
        CHECK.says("Promise 46", "-100 for another what.");
        for (int what : new int[] {12, -1, 100, LEAST, MOST}) {
            Twins.nothing(CHECK, "count(" + what + ")", Twins::full, y -> CHECK.due("count(" + what + ")", y.count(what), -100));
        }
    }

    private static void row() {
        CHECK.says("Promise 47", "Number i of the ROW.");
        LeastWished x = Twins.full();
        int[] due = {1, 3, 1, 1, 0};
        for (int i = 0; i < due.length; i++) {
            CHECK.due("row(" + i + ")", x.row(i), due[i]);
        }
        LeastWished ten = Check.lift(3, TermsBounds.TEN.replace("@0", "@0!"));
        ten.rests(1);
        CHECK.due("the last of the longest row", ten.row(11), -1);
        Check.law(ten, "(f=1)*(w<10)");
        for (int i = 0; i < 10; i++) {
            ten.set(2, i, 1);
        }
        ten.odds(2);
        CHECK.due("more than an int holds", ten.row(0), 9999999999L);
        CHECK.due("more than an int holds", ten.row(1), 10000000000L);
    }

    private static void rowRefused() {
        CHECK.says("Promise 47", "NoSuchElementException: none such.");
        LeastWished x = Twins.full();
        for (int i : new int[] {5, 12, -1, LEAST, MOST}) {
            CHECK.none("row(" + i + ")", () -> x.row(i));
        }
        x.then(12);
        CHECK.due("the twelfth", x.row(11) >= 0, true);
        CHECK.none("a thirteenth", () -> x.row(12));
        x.then(1);
        CHECK.none("what was told before is gone", () -> x.row(1));
        x.then(0);
        CHECK.none("an empty row", () -> x.row(0));
        CHECK.none("none told yet", () -> new LeastWished().row(0));
    }
}
