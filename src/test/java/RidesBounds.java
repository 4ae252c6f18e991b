/** Boundary cases of promises 12 to 17. */
final class RidesBounds {
    private static final Check CHECK = BoundaryTest.CHECK;
    private static final int LEAST = Integer.MIN_VALUE;
    private static final int MOST = Integer.MAX_VALUE;

    private RidesBounds() {
    }

    static void hold() {
        enter();
        leave();
        ride();
        rides();
        ridesTillNobodyIsIn();
        daySigns();
        dayActs();
        dayStops();
        dayFlaws();
        dayMoreThanSixty();
        undo();
        undoOfTwenty();
        undoOfWhatDidSomething();
        undoBehindNothing();
        undoRefused();
        undoForgotten();
    }

    private static void enter() {
        CHECK.says("Promise 12", "One that STANDS where THE LIFT is is IN: true.");
        LeastWished x = Twins.full();
        CHECK.due("e stands there", x.enter(4), true);
        CHECK.due("b and e are in", x.count(4), 2 + 16);
        CHECK.due("none stands there", x.count(5), 0);
        LeastWished ten = Check.lift(5, TermsBounds.TEN);
        for (int i = 9; i >= 0; i--) {
            CHECK.due("of ten, " + i, ten.enter(i), true);
        }
        CHECK.due("all ten", ten.count(4), 1023);
        CHECK.says("Promise 12", "Refused: others.");
        String[] who = {"at home", "in", "elsewhere", "elsewhere"};
        for (int i = 0; i < who.length; i++) {
            int k = i;
            Twins.nothing(CHECK, "enter() of one " + who[i], Twins::full, y -> CHECK.due(who[k], y.enter(k), false));
        }
        for (int i : new int[] {-1, 5, 9, 10, 31, 32, 36, LEAST, MOST}) {
            Twins.nothing(CHECK, "enter(" + i + ")", Twins::full, y -> CHECK.due("none such", y.enter(i), false));
        }
        Twins.nothing(CHECK, "enter() of nobody", LeastWished::new, y -> CHECK.due("nobody", y.enter(0), false));
    }

    private static void leave() {
        CHECK.says("Promise 13", "One that is IN STANDS where THE LIFT is: true.");
        LeastWished x = Twins.full();
        CHECK.due("b is in", x.leave(1), true);
        CHECK.due("none is in", x.count(4), 0);
        CHECK.due("b and e stand there", x.count(5), 2 + 16);
        CHECK.due("where it stands", x.of(1, 3), 2);
        LeastWished ten = Check.lift(5, TermsBounds.TEN.replace("@0", "@0!"));
        CHECK.due("the tenth", ten.leave(9), true);
        CHECK.due("nine are in", ten.count(4), 511);
        LeastWished home = Check.lift(5, "0>-@0!");
        CHECK.due("one whose home is there", home.leave(0), true);
        CHECK.due("stands all the same", home.count(5), 1);
        CHECK.says("Promise 13", "Refused: others.");
        for (int i : new int[] {0, 2, 3, 4, -1, 5, 9, 10, 31, 32, 33, LEAST, MOST}) {
            Twins.nothing(CHECK, "leave(" + i + ")", Twins::full, y -> CHECK.due("not in", y.leave(i), false));
        }
    }

    private static void ride() {
        CHECK.says("Promise 14", "A RIDE: THE STOP; the ROW: who came home (bits).");
        LeastWished x = new LeastWished();
        CHECK.told("nobody", x.ride(), 1, x, 0);
        CHECK.told("and back", x.ride(), 0, x, 0);
        LeastWished ten = Check.lift(5, TermsBounds.TEN.replace("@0", "@0!"));
        CHECK.told("ten", ten.ride(), 1, ten, 1023);
        CHECK.told("and no more", ten.ride(), 0, ten, 0);
        LeastWished one = Check.lift(5, "1>-@0;1>-@0!;2>-@0!;1>-@1");
        CHECK.told("of four one", one.ride(), 1, one, 2);
    }

    /** The lift goes between 0 and 1, and to 2 on the ride of that number. */
    private static String toTwoOn(int number) {
        return "(f=2)*((r<" + (number - 1) + ")-(r>" + (number - 2) + "))";
    }

    private static void rides() {
        CHECK.says("Promise 15", "n RIDES (0 .. 60)");
        LeastWished x = Check.lift(3, "2>-@0!");
        Check.law(x, toTwoOn(60));
        CHECK.told("rides(0)", x.rides(0), 0, x, 0, 0);
        CHECK.due("nothing was done", x.count(8) + x.count(3), 0);
        CHECK.told("rides(59)", x.rides(59), 59, x, 0, 1);
        x.undo();
        CHECK.told("rides(60)", x.rides(60), 60, x, 1, 2);
        x.undo();
        CHECK.told("rides(1)", x.rides(1), 1, x, 0, 1);
        CHECK.due("one can be undone", x.undo(), 0);
        CHECK.says("Promise 15", "NONE: another n.");
        for (int n : new int[] {-1, 61, LEAST, MOST}) {
            Twins.nothing(CHECK, "rides(" + n + ")", Twins::full, y -> CHECK.due("rides(" + n + ")", y.rides(n), -1));
        }
    }

    private static void ridesTillNobodyIsIn() {
        CHECK.says("Promise 15", "till nobody is IN: how many; the ROW: who came home in them (bits), the FLOOR then.");
        LeastWished x = Check.lift(5, "1>-@0!;2>0@0!;1>-@0");
        CHECK.told("two rides", x.rides(60), 2, x, 3, 2);
        CHECK.due("one can be undone", x.count(8), 1);
        CHECK.told("nobody is in", x.rides(60), 0, x, 0, 2);
        CHECK.due("that did nothing", x.count(8), 1);
        LeastWished y = Check.lift(5, "1>-@0!;2>0@0!");
        CHECK.told("just as many as it takes", y.rides(2), 2, y, 3, 2);
        LeastWished z = Check.lift(5, "1>-@0!;2>0@0!");
        CHECK.told("one too few", z.rides(1), 1, z, 1, 1);
        CHECK.told("the rest", z.rides(1), 1, z, 2, 2);
        LeastWished nobody = new LeastWished();
        CHECK.told("nobody at all", nobody.rides(60), 0, nobody, 0, 0);
        LeastWished never = Check.lift(3, "2>-@0!");
        CHECK.told("one that never comes home", never.rides(60), 60, never, 0, 0);
    }

    private static void daySigns() {
        CHECK.says("Promise 16", "THE TEXT tells a DAY (an empty one: nothing), ACTS with ; between: i or o and letters a .. j "
                + "(enter, leave: one or more, rising, whether there or not), w and a letter and a digit, or - (a WISH), "
                + "r (a RIDE), and perhaps a digit 1 .. 9 (so many)");
        LeastWished x = Twins.full();
        x.end(0);
        CHECK.told("an empty one", x.day(), 0, x, 0, 0);
        CHECK.due("did nothing", x.count(8), 2);
        stand("", "iowr");
        stand("r;", "iowr");
        stand("i", "abcdefghij");
        stand("o", "abcdefghij");
        stand("ia", "bcdefghij;");
        stand("ie", "fghij;");
        stand("iabcdefghi", "j;");
        stand("ij", ";");
        stand("oabj", ";");
        stand("w", "abcdefghij");
        stand("wj", "0123456789-");
        stand("wa0", ";");
        stand("wa-", ";");
        stand("r", "123456789;");
        stand("r1", ";");
        stand("r9", ";");
        stand("r9;oc", "defghij;");
    }

    /** Of all 256 signs just those can stand behind the text; the others are wrong at their place, and nothing is done. */
    private static void stand(String text, String signs) {
        for (char sign = 0; sign < 256; sign++) {
            LeastWished x = Twins.full();
            int answer = Check.day(x, text + sign);
            boolean can = answer >= 0 || answer == -1 - (text.length() + 1);
            boolean due = signs.indexOf(sign) >= 0;
            String what = "day " + text + " and sign " + (int) sign + " answered " + answer;
            CHECK.due(what, due ? can : answer == -1 - text.length(), true);
        }
    }

    private static void dayActs() {
        CHECK.says("Promise 16", "they are done one by one, letter by letter,");
        LeastWished ten = Check.lift(9, TermsBounds.TEN);
        CHECK.told("all ten", Check.day(ten, "iabcdefghij"), 1, ten, 0, 0);
        CHECK.due("are in", ten.count(4), 1023);
        CHECK.told("some leave", Check.day(ten, "oaj;ob"), 2, ten, 0, 0);
        CHECK.due("seven are in", ten.count(4), 508);
        CHECK.told("the lowest and the highest wish", Check.day(ten, "wa0;wj8;wb-"), 3, ten, 0, 0);
        CHECK.due("wish of a", ten.of(0, 1), 0);
        CHECK.due("wish of j", ten.of(9, 1), 8);
        CHECK.due("wish of b", ten.of(1, 1), -1);
        CHECK.told("one ride", Check.day(ten, "r"), 1, ten, 1, 0);
        CHECK.told("one ride, told so", Check.day(ten, "r1"), 1, ten, 1, 0);
        CHECK.told("nine", Check.day(ten, "r9"), 1, ten, 9, 0);
        CHECK.told("sixteen", Check.day(ten, "r9;r;r6"), 3, ten, 16, 0);
        CHECK.due("rides", ten.count(3), 27);
        CHECK.due("the text is empty", ten.count(11), 0);
        LeastWished x = Check.lift(3, "1>-@0;1>-@0");
        CHECK.told("in and out and in", Check.day(x, "ia;oa;ia;r"), 4, x, 1, 0);
        CHECK.due("a is at home", x.count(6), 1);
        CHECK.told("one at home can tell a wish still", Check.day(x, "wa2"), 1, x, 0, 0);
    }

    private static void dayStops() {
        CHECK.says("Promise 16", "till one can't be: how many ACTS were done wholly; "
                + "the ROW: how many RIDES, 1 if one could not be, else 0.");
        String[] texts = {"ia", "ib", "ic", "if", "ij", "oa", "oc", "oe", "oj", "wf1", "wj-", "wb5", "wb9"};
        for (String text : texts) {
            Twins.nothingButTheRow(CHECK, text + " does nothing", Twins::full, x -> {
                CHECK.told(text, Check.day(x, text), 0, x, 0, 1);
                Check.text(x, "n+f*2");
            });
        }
        LeastWished x = Twins.full();
        CHECK.told("the letter ahead", Check.day(x, "oab"), 0, x, 0, 1);
        CHECK.due("b is in still, as a ahead of it can't", x.count(4), 2);
        CHECK.told("b, then c that is elsewhere", Check.day(x, "obc;r"), 0, x, 0, 1);
        CHECK.due("b was let out", x.count(4), 0);
        CHECK.told("acts ahead of it", Check.day(x, "ib;wb0;r2;ibc;r9"), 3, x, 2, 1);
        CHECK.due("no ride behind it", x.count(3), 3);
        CHECK.due("the wish was told", x.of(1, 1), 0);
        CHECK.told("a wish that is no floor, then rides", Check.day(x, "r;wb5;r"), 1, x, 1, 1);
        CHECK.told("the highest wish", Check.day(x, "wb4"), 1, x, 0, 0);
    }

    private static void wrong(String day, int p) {
        Twins.nothingButTheText(CHECK, "day " + day, Twins::full, x -> CHECK.due("day " + day, Check.day(x, day), -1 - p));
    }

    private static void dayFlaws() {
        CHECK.says("Promise 16", "-1 - p: the sign at p can't stand there");
        String whole = "ob;wb-;r2;ibe;wa0;r";
        for (int k = 1; k <= whole.length(); k++) {
            // Behind a letter of i or o, behind a wish, behind r and its digit it can end.
            boolean ends = " 2 6 8 9 12 13 17 19 ".contains(" " + k + " ");
            LeastWished x = Twins.full();
            int answer = Check.day(x, whole.substring(0, k));
            CHECK.due("day " + whole.substring(0, k), ends ? answer >= 0 : answer == -1 - k, true);
        }
        wrong("r;;r", 2);
        wrong(";", 0);
        wrong("r0", 1);
        wrong("r10", 2);
        wrong("wa10", 3);
        wrong("i1", 1);
        CHECK.says("Promise 16", "a letter that does not rise: at it");
        wrong("ibb", 2);
        wrong("iba", 2);
        wrong("obea", 3);
        wrong("iabcdefghijj", 11);
        wrong("r9;ib;oea", 8);
        CHECK.says("Promise 16", "nothing is done then.");
        wrong("r9;ob;wb4;x", 10);
        wrong("r9;", 3);
        wrong("ob;ie;oee", 8);
    }

    private static void dayMoreThanSixty() {
        CHECK.says("Promise 16", "60, if it has more");
        String sixty = "r1;".repeat(19) + "r;r";
        LeastWished x = Twins.full();
        CHECK.told("60 signs", Check.day(x, sixty), 21, x, 21, 0);
        LeastWished y = Twins.full();
        CHECK.told("as many rides as a day can have", Check.day(y, "r9;".repeat(19) + "r9"), 20, y, 180, 0);
        wrong(sixty + "1", 60);
        wrong(sixty + ";", 60);
        wrong(sixty + ";r", 60);
        wrong(sixty + "x", 60);
        wrong("r1;".repeat(20), 60);
        wrong("r1;".repeat(20) + "r", 60);
        wrong("r;".repeat(40), 60);
        wrong("r;".repeat(29) + "r0" + "r".repeat(20), 59);
    }

    private static void undo() {
        CHECK.says("Promise 17", "The latest ride(), rides(), enter(), leave() or day()");
        undone("ride()", LeastWished::ride);
        undone("rides(1)", x -> x.rides(1));
        undone("rides(60)", x -> x.rides(60));
        undone("enter(4)", x -> x.enter(4));
        undone("leave(1)", x -> x.leave(1));
        undone("day() of rides", x -> Check.day(x, "r9;r9;r9"));
        undone("day() of a wish", x -> Check.day(x, "wb4"));
        undone("day() of no wish", x -> Check.day(x, "wb-"));
        CHECK.says("Promise 17", "is undone as one (where each is, THE LIFT, RIDES, how many RIDES each was IN, "
                + "WISHES are as ahead of it): how many are left that can be.");
        undone("day() of all", x -> Check.day(x, "ob;ie;wb0;we-;wa3;r3;oe;r"));
        undone("day() that could not be done wholly", x -> Check.day(x, "r5;wb0;obc"));
        undone("a wish told behind a ride", x -> {
            x.ride();
            x.set(1, 1, 4);
        });
        LeastWished x = Twins.full();
        x.ride();
        x.set(0, 1, 0);
        x.set(2, 1, 3);
        x.dog(0);
        x.saw(0, 1, 1);
        CHECK.due("two are left", x.undo(), 2);
        CHECK.due("home is no part of it", x.of(1, 0), 0);
        CHECK.due("nor truth", x.of(1, 2), 3);
        CHECK.due("nor the dog", x.count(7), 0);
        CHECK.due("nor what was seen", x.count(9), 3);
        CHECK.due("nor the text", x.count(11), 5);
        CHECK.row("nor is the row", x, 0);
        CHECK.due("one is left", x.undo(), 1);
        CHECK.due("none is left", x.undo(), 0);
        CHECK.due("as it began", x.count(4) * 100 + x.count(2) * 10 + x.count(3), 1900);
    }

    /** The call is undone by one undo(): all but the row and the text are as ahead of it. */
    private static void undone(String what, Twins.Act call) {
        Twins.nothingButTheRow(CHECK, what, Twins::full, x -> {
            call.on(x);
            CHECK.due(what + " can be undone", x.count(8), 3);
            CHECK.due(what + " is undone", x.undo(), 2);
            Check.text(x, "n+f*2");
        });
    }

    private static void undoOfTwenty() {
        CHECK.says("Promise 17", "of 20 that are kept, the latest ones;");
        LeastWished x = new LeastWished();
        for (int k = 1; k <= 21; k++) {
            x.ride();
            CHECK.due("behind ride " + k, x.count(8), Math.min(k, 20));
        }
        for (int left = 19; left >= 0; left--) {
            CHECK.due("undo()", x.undo(), left);
            CHECK.due("rides", x.count(3), left + 1);
        }
        CHECK.due("the first of 21 can't be", x.undo(), -1);
        LeastWished y = new LeastWished();
        for (int k = 1; k <= 20; k++) {
            y.ride();
        }
        for (int left = 19; left >= 0; left--) {
            CHECK.due("undo() of 20", y.undo(), left);
        }
        CHECK.due("the first of 20 can be", y.count(3), 0);
        for (int k = 1; k <= 47; k++) {
            y.rides(0);
            y.ride();
            y.enter(0);
        }
        for (int left = 19; left >= 0; left--) {
            CHECK.due("undo() of 47", y.undo(), left);
            CHECK.due("rides", y.count(3), 27 + left);
        }
        CHECK.due("and no more", y.undo(), -1);
    }

    private static void undoOfWhatDidSomething() {
        CHECK.says("Promise 17", "such as did something");
        Twins.nothing(CHECK, "enter() that is refused", Twins::full, x -> x.enter(1));
        Twins.nothing(CHECK, "leave() that is refused", Twins::full, x -> x.leave(4));
        Twins.nothing(CHECK, "rides() that is refused", Twins::full, x -> x.rides(61));
        Twins.nothingButTheRow(CHECK, "rides(0)", Twins::full, x -> x.rides(0));
        Twins.nothingButTheRow(CHECK, "rides(60) of nobody in", () -> {
            LeastWished x = Twins.full();
            x.leave(1);
            return x;
        }, x -> x.rides(60));
        for (String day : new String[] {"", "ia", "oc;r9", "wf1;r", "wb7;r"}) {
            Twins.nothingButTheRow(CHECK, "day " + day, Twins::full, x -> {
                Check.day(x, day);
                Check.text(x, "n+f*2");
            });
        }
        LeastWished x = Twins.full();
        Check.day(x, "obc");
        CHECK.due("a day of one letter did something", x.count(8), 3);
        Check.day(x, "obc");
        CHECK.due("the same day again did nothing", x.count(8), 3);
        Check.day(x, "");
        CHECK.due("nor did an empty one", x.count(8), 3);
        LeastWished y = new LeastWished();
        y.ride();
        CHECK.due("a ride with nobody did something", y.count(8), 1);
    }

    /** Of twenty that can be undone the oldest stays, whatever did nothing since. */
    private static void undoBehindNothing() {
        Twins.Act[] nothing = {x -> x.rides(0), x -> x.rides(60), x -> Check.day(x, ""), x -> Check.day(x, "oa"), x -> x.enter(0),
            x -> x.leave(0)};
        for (int k = 0; k < nothing.length; k++) {
            LeastWished x = new LeastWished();
            for (int ride = 1; ride <= 20; ride++) {
                x.ride();
            }
            nothing[k].on(x);
            for (int left = 19; left >= 0; left--) {
                CHECK.due("undo() behind nothing " + k, x.undo(), left);
                CHECK.due("rides", x.count(3), left);
            }
        }
    }

    private static void undoRefused() {
        CHECK.says("Promise 17", "Refused: none.");
        Twins.nothing(CHECK, "undo() of nothing", LeastWished::new, x -> CHECK.due("undo()", x.undo(), -1));
        LeastWished x = Twins.full();
        x.undo();
        x.undo();
        CHECK.due("none is left", x.count(8), 0);
        CHECK.due("undo()", x.undo(), -1);
        CHECK.due("it stays as it is", x.count(4), 1 + 2 + 16);
    }

    private static void undoForgotten() {
        CHECK.says("Promise 17", "(floors(), crowd(), house() and again() forget them, "
                + "if they are not refused and bring or tell anything.)");
        forgets("floors(5)", x -> x.floors(5), 0);
        forgets("floors(1)", x -> x.floors(1), 2);
        forgets("floors(10)", x -> x.floors(10), 2);
        forgets("crowd(1, 6)", x -> x.crowd(1, 6), 0);
        forgets("crowd(1, 5)", x -> x.crowd(1, 5), 2);
        forgets("crowd(1, 0)", x -> x.crowd(1, 0), 2);
        forgets("crowd(1, 11)", x -> x.crowd(1, 11), 2);
        forgets("house()", x -> Check.house(x, "1>1@1"), 0);
        forgets("house() of an empty text", x -> Check.house(x, ""), 2);
        forgets("house() that is refused", x -> Check.house(x, "1>1@1;"), 2);
        forgets("again(0)", x -> x.again(0), 0);
        forgets("again(2)", x -> x.again(2), 0);
        forgets("again(1), nothing kept", x -> x.again(1), 2);
        forgets("again(3)", x -> x.again(3), 2);
        forgets("set()", x -> x.set(1, 1, 4), 2);
        forgets("sheet()", x -> x.sheet(2, 5, 1, 0), 2);
        forgets("law()", x -> Check.law(x, "f"), 2);
        forgets("dog()", x -> x.dog(1), 2);
        forgets("keep()", x -> x.keep(1), 2);
        forgets("forget()", LeastWished::forget, 2);
    }

    private static void forgets(String what, Twins.Act call, int left) {
        LeastWished x = Twins.full();
        call.on(x);
        CHECK.due("can be undone behind " + what, x.count(8), left);
        CHECK.due("undo() behind " + what, x.undo(), left - 1);
    }
}
