/** Promises 12 to 17: rides. */
public final class RidesTest {
    private static final Check CHECK = new Check("RidesTest");
    private static final String THREE = "3>1@0!;1>3@0!;4>-@0";

    public static void main(String[] args) {
        promise12Enter();
        promise13Leave();
        promise14Ride();
        promise14Ties();
        promise15Rides();
        promise16Day();
        promise16DayStops();
        promise16DayErrors();
        promise17Undo();
        promise17UndoOfTwenty();
        promise17Forgotten();
        CHECK.end();
    }

    private static void promise12Enter() {
        LeastWished x = Check.lift(5, THREE + ";1>1@2");
        CHECK.due("one that is in", x.enter(0), false);
        CHECK.due("one that stands elsewhere", x.enter(3), false);
        CHECK.due("none such", x.enter(4), false);
        CHECK.due("none such", x.enter(-1), false);
        CHECK.due("none such", x.enter(32), false);
        CHECK.due("none such", x.enter(Integer.MIN_VALUE), false);
        CHECK.due("nothing to undo", x.count(8), 0);
        CHECK.due("one that stands", x.enter(2), true);
        CHECK.due("who is in", x.count(4), 7);
        CHECK.due("who stands", x.count(5), 0);
        CHECK.due("one to undo", x.count(8), 1);
        x.ride();
        CHECK.due("where the lift is now", x.enter(3), true);
        LeastWished y = Check.lift(5, "1>-@0!");
        y.ride();
        CHECK.due("one that is at home", y.enter(0), false);
    }

    private static void promise13Leave() {
        LeastWished x = Check.lift(5, THREE);
        CHECK.due("one that stands", x.leave(2), false);
        CHECK.due("none such", x.leave(3), false);
        CHECK.due("none such", x.leave(-1), false);
        CHECK.due("none such", x.leave(32), false);
        CHECK.due("nothing to undo", x.count(8), 0);
        CHECK.due("one that is in", x.leave(1), true);
        CHECK.due("who is in", x.count(4), 1);
        CHECK.due("who stands", x.count(5), 6);
        x.ride();
        CHECK.due("elsewhere", x.leave(0), true);
        CHECK.due("it stands there", x.of(0, 3), 2);
        CHECK.due("the other one stayed", x.of(1, 3), 0);
    }

    private static void promise14Ride() {
        LeastWished x = Check.lift(5, THREE);
        CHECK.due("the first ride", x.ride(), 2);
        CHECK.row("the first ride", x, 0);
        CHECK.due("rides", x.count(3), 1);
        CHECK.due("where one is", x.of(0, 3), 2);
        CHECK.due("where one that stood is", x.of(2, 3), 0);
        CHECK.due("rides of it", x.of(2, 5), 0);
        CHECK.due("the second ride", x.ride(), 0);
        LeastWished y = Check.lift(5, "1>3@0!;1>3@0!;2>3@0!;1>3@0");
        CHECK.due("to a home", y.ride(), 1);
        CHECK.row("to a home", y, 3);
        CHECK.due("at home", y.count(6), 3);
        CHECK.due("in", y.count(4), 4);
        CHECK.due("one that stood is not at home", y.of(3, 3), 0);
        CHECK.due("rides of one at home", y.of(0, 5), 1);
        y.ride();
        CHECK.due("and no more", y.of(0, 5), 1);
        LeastWished z = new LeastWished();
        CHECK.due("with nobody", z.ride(), 1);
        CHECK.row("with nobody", z, 0);
        CHECK.due("it can be undone", z.count(8), 1);
    }

    private static void promise14Ties() {
        LeastWished x = Check.lift(5, "4>2@0!");
        Check.law(x, "-w");
        CHECK.due("the least law first", x.ride(), 2);
        Check.law(x, "");
        CHECK.due("the nearest, the lower one", x.ride(), 1);
        x.set(1, 0, 0);
        CHECK.due("then the upper one", x.ride(), 2);
        Check.law(x, "f=3");
        CHECK.due("the lower one again", x.ride(), 1);
        Check.law(x, "f<4");
        CHECK.due("far, but least", x.ride(), 4);
    }

    private static void promise15Rides() {
        LeastWished x = Check.lift(5, THREE);
        CHECK.due("rides(-1)", x.rides(-1), -1);
        CHECK.due("rides(61)", x.rides(61), -1);
        CHECK.due("no row", x.count(10), 0);
        CHECK.due("rides(0)", x.rides(0), 0);
        CHECK.row("rides(0)", x, 0, 0);
        CHECK.due("nothing to undo", x.count(8), 0);
        CHECK.due("rides(3)", x.rides(3), 3);
        CHECK.row("rides(3)", x, 0, 2);
        CHECK.due("one to undo", x.count(8), 1);
        CHECK.due("rides(60)", x.rides(60), 60);
        CHECK.due("rides", x.count(3), 63);
        CHECK.due("rides of one", x.of(1, 5), 63);
        LeastWished y = Check.lift(5, "1>3@0!;2>0@0!");
        CHECK.due("till nobody is in", y.rides(60), 2);
        CHECK.row("till nobody is in", y, 3, 2);
        CHECK.due("the rides of the first", y.of(0, 5), 1);
        CHECK.due("the rides of the second", y.of(1, 5), 2);
        CHECK.due("nobody is in", y.rides(5), 0);
        CHECK.row("nobody is in", y, 0, 2);
        CHECK.due("one to undo", y.count(8), 1);
    }

    private static void promise16Day() {
        LeastWished x = Check.lift(5, THREE);
        CHECK.due("an empty day", Check.day(x, ""), 0);
        CHECK.row("an empty day", x, 0, 0);
        CHECK.due("nothing to undo", x.count(8), 0);
        CHECK.due("a day", Check.day(x, "ic;r;oab;wa-;wb4;r2"), 6);
        CHECK.row("a day", x, 3, 0);
        CHECK.due("the text is empty", x.count(11), 0);
        CHECK.due("rides", x.count(3), 3);
        CHECK.due("one to undo", x.count(8), 1);
        CHECK.due("a was let out", x.of(0, 3), 2);
        CHECK.due("b was let out", x.of(1, 3), 2);
        CHECK.due("wish of a", x.of(0, 1), -1);
        CHECK.due("wish of b", x.of(1, 1), 4);
        CHECK.due("rides of c", x.of(2, 5), 3);
        CHECK.due("undone as one", x.undo(), 0);
        CHECK.due("who is in", x.count(4), 3);
        CHECK.due("wish of a", x.of(0, 1), 1);
        CHECK.due("wish of b", x.of(1, 1), 3);
        CHECK.due("one that leaves", Check.day(x, "oa"), 1);
        CHECK.due("can be undone", x.undo(), 0);
        CHECK.due("a wish", Check.day(x, "wa0"), 1);
        CHECK.due("is told", x.of(0, 1), 0);
        CHECK.due("can be undone", x.undo(), 0);
        CHECK.due("a wish that is no floor", Check.day(x, "wa9"), 0);
        CHECK.row("a wish that is no floor", x, 0, 1);
        CHECK.due("a ride", Check.day(x, "r"), 1);
        CHECK.due("can be undone", x.undo(), 0);
        CHECK.due("nine rides", Check.day(x, "r9"), 1);
        CHECK.row("nine rides", x, 9, 0);
        LeastWished y = Check.lift(2, "1>1@0;1>1@0;1>1@0;1>1@0;1>1@0;1>1@0;1>1@0;1>1@0;1>1@0;1>1@0");
        CHECK.due("letters that are acts, too", Check.day(y, "ii;iaj;oai"), 3);
        CHECK.due("who is in", y.count(4), 512);
    }

    private static void promise16DayStops() {
        LeastWished x = Check.lift(5, THREE + ";1>1@2");
        CHECK.due("one that is elsewhere", Check.day(x, "r;r;icd;r"), 2);
        CHECK.row("one that is elsewhere", x, 2, 1);
        CHECK.due("the letter ahead of it was done", x.count(4), 7);
        CHECK.due("no ride behind it", x.count(3), 2);
        CHECK.due("one to undo", x.undo(), 0);
        CHECK.due("none such", Check.day(x, "ij"), 0);
        CHECK.row("none such", x, 0, 1);
        CHECK.due("nothing was done", x.count(8), 0);
        CHECK.due("a wish of none such", Check.day(x, "we1;r"), 0);
        CHECK.row("a wish of none such", x, 0, 1);
        CHECK.due("a wish that is no floor", Check.day(x, "wa4;wa5"), 1);
        CHECK.row("a wish that is no floor", x, 0, 1);
        CHECK.due("the wish ahead of it", x.of(0, 1), 4);
        CHECK.due("can be undone", x.undo(), 0);
        CHECK.due("its wish again", x.of(0, 1), 1);
        CHECK.due("one that is in", Check.day(x, "ia"), 0);
        CHECK.due("one that stands", Check.day(x, "oc"), 0);
        CHECK.due("done in part", Check.day(x, "oac"), 0);
        CHECK.row("done in part", x, 0, 1);
        CHECK.due("can be undone", x.count(8), 1);
    }

    private static void promise16DayErrors() {
        String[] texts = {"x", ";", "a", "i", "ik", "ia;", "iba", "iaa", "i;", "iab1", "o", "ob;o", "oA", "w", "wa", "wk", "w1",
            "waa", "wa1;", "wa12", "wa-1", "wa1a", "r0", "r10", "rr", "r;", "r1;r;x", "r ", "I", "iac;oac;ob;obb"};
        int[] at = {0, 0, 0, 1, 1, 3, 2, 2, 1, 3, 1, 4, 1, 1, 2, 1, 1,
            2, 4, 3, 3, 3, 1, 2, 1, 2, 5, 1, 0, 13};
        LeastWished x = Check.lift(5, THREE);
        for (int k = 0; k < texts.length; k++) {
            CHECK.due("day " + texts[k], Check.day(x, texts[k]), -1 - at[k]);
            CHECK.due("nothing is done by " + texts[k], x.count(3) + x.count(8), 0);
            CHECK.due("the text is empty behind " + texts[k], x.count(11), 0);
        }
        CHECK.due("no row", x.count(10), 0);
        String sixty = "r1;".repeat(19) + "r;r";
        CHECK.due("60 signs", Check.day(x, sixty), 21);
        CHECK.due("61 signs", Check.day(x, sixty + "1"), -61);
        CHECK.due("61 signs, the last one wrong", Check.day(x, sixty + "x"), -61);
        CHECK.due("80 signs, wrong at 4", Check.day(x, "r;r;" + "x".repeat(76)), -5);
        CHECK.due("60 signs that end too early", Check.day(x, "r1;".repeat(20)), -61);
        CHECK.due("57 signs that end too early", Check.day(x, "r1;".repeat(19)), -58);
        CHECK.due("rides of one day alone", x.count(3), 21);
    }

    private static void promise17Undo() {
        LeastWished x = Check.lift(5, THREE);
        CHECK.due("nothing", x.undo(), -1);
        x.enter(2);
        x.ride();
        x.rides(3);
        x.set(1, 0, 4);
        x.leave(1);
        CHECK.due("leave undone", x.undo(), 3);
        CHECK.due("who is in", x.count(4), 7);
        CHECK.due("the wish is as ahead of leave()", x.of(0, 1), 4);
        CHECK.due("rides undone", x.undo(), 2);
        CHECK.due("rides", x.count(3), 1);
        CHECK.due("the lift", x.count(2), 2);
        CHECK.due("rides of one", x.of(0, 5), 1);
        CHECK.due("the wish is as ahead of rides()", x.of(0, 1), 1);
        CHECK.due("ride undone", x.undo(), 1);
        CHECK.due("rides", x.count(3), 0);
        CHECK.due("where one is", x.of(0, 3), 0);
        CHECK.due("enter undone", x.undo(), 0);
        CHECK.due("who is in", x.count(4), 3);
        CHECK.due("nothing", x.undo(), -1);
        LeastWished y = Check.lift(5, "1>3@0!");
        y.ride();
        CHECK.due("at home", y.count(6), 1);
        y.undo();
        CHECK.due("no more", y.count(6), 0);
        CHECK.due("in again", y.count(4), 1);
    }

    private static void promise17UndoOfTwenty() {
        LeastWished x = new LeastWished();
        for (int k = 1; k <= 25; k++) {
            x.ride();
            CHECK.due("after ride " + k, x.count(8), Math.min(k, 20));
        }
        x.rides(3);
        x.enter(0);
        Check.day(x, "ia");
        CHECK.due("such as did nothing are not kept", x.count(8), 20);
        for (int k = 19; k >= 0; k--) {
            CHECK.due("undo", x.undo(), k);
        }
        CHECK.due("five rides are left", x.count(3), 5);
        CHECK.due("undo", x.undo(), -1);
        x.ride();
        CHECK.due("again one", x.count(8), 1);
        CHECK.due("undone", x.undo(), 0);
        CHECK.due("five rides are left", x.count(3), 5);
    }

    private static void promise17Forgotten() {
        LeastWished x = Check.lift(5, "3>1@0!");
        x.keep(0);
        x.ride();
        CHECK.due("again(0)", x.again(0), true);
        CHECK.due("forgets", x.undo(), -1);
        x.ride();
        x.again(1);
        CHECK.due("a refused one does not", x.count(8), 1);
        Check.house(x, "");
        x.crowd(1, 1);
        x.floors(1);
        x.crowd(1, 11);
        Check.house(x, "x");
        CHECK.due("nor these", x.count(8), 1);
        Check.house(x, "1>1@0");
        CHECK.due("house() does", x.count(8), 0);
        x.ride();
        x.crowd(1, 3);
        CHECK.due("crowd() does", x.count(8), 0);
        x.ride();
        x.floors(5);
        CHECK.due("floors() does", x.count(8), 0);
    }
}
