/** Boundary cases of promises 1 to 5 and 7 to 11. */
final class HouseBounds {
    private static final Check CHECK = BoundaryTest.CHECK;
    private static final int LEAST = Integer.MIN_VALUE;
    private static final int MOST = Integer.MAX_VALUE;

    private HouseBounds() {
    }

    static void hold() {
        newObject();
        sign();
        end();
        floors();
        floorsRefused();
        houseLines();
        houseSigns();
        houseEndsTooEarly();
        houseMoreThanItHolds();
        houseFloorsAndIn();
        houseNoRoom();
        houseNothingComes();
        of();
        set();
        sheetKinds();
        sheetRefused();
        dog();
        crowd();
        crowdRefused();
    }

    private static void newObject() {
        CHECK.says("Promise 1", "Two FLOORS, nobody.");
        LeastWished x = new LeastWished();
        int[] due = {2, 0, 0, 0, 0, 0, 0, -1, 0, 0, 0, 0};
        for (int what = 0; what < due.length; what++) {
            CHECK.due("count(" + what + ")", x.count(what), due[what]);
        }
        CHECK.none("of(0, 0)", () -> x.of(0, 0));
        CHECK.none("worthOf(2)", () -> x.worthOf(2));
        CHECK.none("row(0)", () -> x.row(0));
        CHECK.due("undo()", x.undo(), -1);
        for (int i = 0; i < 3; i++) {
            CHECK.due("again(" + i + ")", x.again(i), false);
        }
        CHECK.due("an empty text is a house", x.house(), 0);
        CHECK.due("and a law", x.law(), 0);
        CHECK.due("and a day", x.day(), 0);
        CHECK.due("all() of nobody", x.all(), 0);
    }

    private static void sign() {
        CHECK.says("Promise 2", "Four signs come behind THE TEXT, of v the highest byte first: how many it has.");
        LeastWished x = new LeastWished();
        CHECK.due("four", x.sign(('1' << 24) | ('2' << 16) | ('+' << 8) | '3'), 4);
        CHECK.due("law()", x.law(), 0);
        CHECK.due("12+3", x.worthOf(0), 15);
        CHECK.due("four", x.sign(('1' << 24) | ('2' << 16) | ('+' << 8) | '3'), 4);
        x.end(2);
        CHECK.due("behind the two that are left", x.sign(('3' << 24) | ('-' << 16) | ('4' << 8) | '5'), 6);
        x.law();
        CHECK.due("123-45", x.worthOf(0), 78);
        for (int v : new int[] {0, -1, LEAST, MOST, 0x80808080, 0x7F7F7F7F}) {
            CHECK.due("sign(" + v + ")", x.sign(v), 4);
            CHECK.due("its first sign is no law", x.law(), -1);
        }
        x.sign(0xFFFFFF80);
        x.end(0);
        x.sign((0xB1 << 24) | ('3' << 16));
        CHECK.due("a byte above 127 is no digit", x.law(), -1);
        CHECK.says("Promise 2", "Refused: there would be more than 80.");
        for (int k = 1; k <= 20; k++) {
            CHECK.due("sign, time " + k, x.sign('f'), 4 * k);
        }
        CHECK.due("sign, time 21", x.sign(0), -1);
        CHECK.due("80 stay", x.count(11), 80);
        for (int n = 79; n >= 77; n--) {
            x.end(n);
            CHECK.due("sign behind " + n, x.sign(0), -1);
            CHECK.due("they stay", x.count(11), n);
        }
        x.end(76);
        CHECK.due("sign behind 76", x.sign(0), 80);
        x.end(0);
        CHECK.due("sign behind none", x.sign(0), 4);
    }

    private static void end() {
        CHECK.says("Promise 3", "THE TEXT has its first n signs alone: true;");
        LeastWished x = new LeastWished();
        CHECK.due("end(0) of none", x.end(0), true);
        Check.text(x, "1234");
        CHECK.due("end(4) of 4", x.end(4), true);
        CHECK.due("end(3) of 4", x.end(3), true);
        CHECK.due("three", x.count(11), 3);
        x.law();
        CHECK.due("the first three", x.worthOf(0), 123);
        Check.text(x, "1>0@0!");
        x.end(5);
        CHECK.due("a line without the ! that was cut off", x.house(), 1);
        CHECK.due("one that is not in", x.count(4), 0);
        Check.text(x, "r9");
        x.end(1);
        x.day();
        CHECK.due("an r without the digit that was cut off", x.count(3), 1);
        Check.text(x, "1>1>".repeat(20));
        CHECK.due("end(80) of 80", x.end(80), true);
        CHECK.due("end(0) of 80", x.end(0), true);
        CHECK.due("none", x.count(11), 0);
        CHECK.says("Promise 3", "false if it has not so many, or n is below 0.");
        CHECK.due("end(1) of none", x.end(1), false);
        Check.text(x, "1234");
        for (int n : new int[] {5, 81, MOST, -1, LEAST}) {
            CHECK.due("end(" + n + ")", x.end(n), false);
            CHECK.due("four stay", x.count(11), 4);
        }
        x.end(2);
        CHECK.due("what is cut off does not come back", x.end(3), false);
    }

    private static void floors() {
        CHECK.says("Promise 4", "A building of n (2 .. 9) FLOORS, nobody there, THE LIFT on FLOOR 0, RIDES 0, no DOG, nothing seen; "
                + "nothing can be undone: true.");
        for (int n = 2; n <= 9; n++) {
            LeastWished x = Twins.full();
            CHECK.due("floors(" + n + ")", x.floors(n), true);
            int[] due = {n, 0, 0, 0, 0, 0, 0, -1, 0, 0, 5, 5};
            for (int what = 0; what < due.length; what++) {
                CHECK.due("floors(" + n + "): count(" + what + ")", x.count(what), due[what]);
            }
            CHECK.none("nobody", () -> x.of(0, 0));
            int above = n;
            CHECK.none("no floor " + n, () -> x.worthOf(above));
            CHECK.due("the highest", x.worthOf(n - 1), 0);
            CHECK.due("undo()", x.undo(), -1);
            CHECK.due("what was kept is gone", x.again(0) || x.again(2), false);
            CHECK.due("all have room again", x.crowd(1, 10), 10);
            for (int i = 0; i < 10; i++) {
                CHECK.due("new ones were in no ride", x.of(i, 5), 0);
                CHECK.due("new ones tell the truth", x.of(i, 2), 10);
                CHECK.due("new ones stand", x.of(i, 4), 0);
            }
        }
        LeastWished five = Twins.full();
        five.floors(5);
        CHECK.due("as many floors empty it, too", five.count(1) + five.count(8) + five.count(9), 0);
    }

    private static void floorsRefused() {
        CHECK.says("Promise 4", "Refused: others.");
        LeastWished x = new LeastWished();
        for (int n : new int[] {1, 0, -1, LEAST, 10, 11, MOST}) {
            CHECK.due("floors(" + n + ")", x.floors(n), false);
            Twins.nothing(CHECK, "floors(" + n + ")", Twins::full, y -> y.floors(n));
        }
    }

    private static LeastWished five() {
        LeastWished x = new LeastWished();
        x.floors(5);
        return x;
    }

    private static void wrong(LeastWished x, String house, int p) {
        int riders = x.count(1);
        CHECK.due("house " + house, Check.house(x, house), -1 - p);
        CHECK.due("the text behind " + house, x.count(11), 0);
        CHECK.due("riders behind " + house, x.count(1), riders);
    }

    private static void houseLines() {
        CHECK.says("Promise 5", "THE TEXT tells of THE HOUSE (an empty one: nothing): how many LINES.");
        LeastWished x = five();
        CHECK.due("an empty one", x.house(), 0);
        CHECK.due("nobody", x.count(1), 0);
        CHECK.due("one line", Check.house(x, "4>-@0!"), 1);
        CHECK.due("the text is empty", x.count(11), 0);
        CHECK.due("three lines", Check.house(x, "0>0@0;4>4@4;0>-@0!"), 3);
        int[][] due = {{4, -1, 10, 0, 1, 0}, {0, 0, 10, 0, 0, 0}, {4, 4, 10, 4, 0, 0}, {0, -1, 10, 0, 1, 0}};
        for (int i = 0; i < due.length; i++) {
            for (int what = 0; what < 6; what++) {
                CHECK.due("of(" + i + ", " + what + ")", x.of(i, what), due[i][what]);
            }
        }
        CHECK.due("an empty one, some being there", x.house(), 0);
        CHECK.due("four", x.count(1), 4);
        for (int lines = 1; lines <= 10; lines++) {
            CHECK.due(lines + " lines", Check.house(five(), TermsBounds.TEN.substring(0, 6 * lines - 1)), lines);
        }
    }

    private static void houseSigns() {
        CHECK.says("Promise 5", "-1 - p: the sign at p can't stand there");
        String floor = "01234";
        stand("", floor);
        stand("1", ">");
        stand("1>", floor + "-");
        stand("1>2", "@");
        stand("1>-", "@");
        stand("1>2@", floor);
        stand("1>2@0", "!;");
        stand("1>2@1", ";");
        stand("1>2@0!", ";");
        stand("1>2@0!;", floor);
        stand("1>2@0;", floor);
        stand("1>2@0;3", ">");
        stand("1>2@0;3>-@4", ";");
        stand("1>2@0;3>-@0", "!;");
    }

    /** Of all 256 signs just those can stand behind the text; the others are wrong at their place. */
    private static void stand(String text, String signs) {
        for (char sign = 0; sign < 256; sign++) {
            int answer = Check.house(five(), text + sign);
            boolean can = answer > 0 || answer == -1 - (text.length() + 1);
            boolean due = signs.indexOf(sign) >= 0;
            String what = "house " + text + " and sign " + (int) sign + " answered " + answer;
            CHECK.due(what, due ? can : answer == -1 - text.length(), true);
        }
    }

    private static void houseEndsTooEarly() {
        CHECK.says("Promise 5", "its end, if it ends too early");
        String whole = "1>2@0!;3>-@4;0>0@0";
        for (int k = 1; k <= whole.length(); k++) {
            // Behind a floor or a ! it can end.
            int lines = k == 5 || k == 6 ? 1 : k == 12 ? 2 : k == 18 ? 3 : 0;
            CHECK.due("house " + whole.substring(0, k), Check.house(five(), whole.substring(0, k)), lines > 0 ? lines : -1 - k);
        }
        CHECK.due("ten lines and a ;", Check.house(five(), TermsBounds.TEN + ";"), -61);
        CHECK.due("ten lines but the last sign", Check.house(five(), TermsBounds.TEN.substring(0, 58)), -59);
    }

    /** Ten lines have 69 signs at most, so that an eleventh begins ahead of 76: 76 itself can't come. */
    private static void houseMoreThanItHolds() {
        CHECK.says("Promise 5", "76, if it has more and the first 76 could go on or end");
        String in = TermsBounds.TEN.replace("@0", "@0!");
        for (int n = 71; n <= 80; n++) {
            String text = (in + ";1>-@0!;1>-@0!").substring(0, n);
            wrong(five(), text, 70);
        }
        wrong(five(), in + ";", 70);
        wrong(five(), TermsBounds.TEN + ";1>-@0!;1>-@0!;1>-@", 60);
        wrong(five(), "1>-@0;" + "x".repeat(74), 6);
        wrong(five(), in.substring(0, 68) + "x".repeat(12), 68);
        CHECK.due("69 signs", Check.house(five(), in), 10);
    }

    private static void houseFloorsAndIn() {
        CHECK.says("Promise 5", "a FLOOR that is not there, a ! where THE LIFT is not: at it");
        for (int n = 2; n <= 9; n++) {
            LeastWished x = new LeastWished();
            x.floors(n);
            int top = n - 1;
            wrong(x, n + ">0@0", 0);
            wrong(x, "0>" + n + "@0", 2);
            wrong(x, "0>0@" + n, 4);
            wrong(x, "0>0@0;0>0@" + n + "!", 10);
            wrong(x, "0>0@" + top + "!", 5);
            wrong(x, "0>0@0!;0>0@" + top + "!", 12);
            CHECK.due("the highest floor", Check.house(x, top + ">" + top + "@" + top), 1);
            Check.law(x, "-f");
            x.ride();
            wrong(x, "0>0@0!", 5);
            CHECK.due("in on the highest floor", Check.house(x, top + ">" + top + "@" + top + "!"), 1);
        }
    }

    private static void houseNoRoom() {
        CHECK.says("Promise 5", "the first sign of a LINE for which there is no room");
        for (int there = 0; there <= 10; there++) {
            LeastWished x = five();
            x.crowd(7, there);
            int room = 10 - there;
            String more = (TermsBounds.TEN + ";1>-@0").substring(0, 6 * room + 5);
            wrong(x, more, 6 * room);
            wrong(x, more.substring(0, 6 * room) + "x", 6 * room);
            CHECK.due("an empty one", Check.house(x, ""), 0);
            CHECK.due("just as many as have room", Check.house(x, more.substring(0, Math.max(6 * room - 1, 0))), room);
            CHECK.due("ten then", x.count(1), 10);
        }
    }

    private static void houseNothingComes() {
        CHECK.says("Promise 5", "Nothing of it comes, if a LINE can't.");
        for (String text : new String[] {"1>1@2;1>1@2;1>1@5", "1>1@2;", "1>1@2!;1>5@2", "1>1@2;1>1@0!",
            "1>1@1;1>1@1;1>1@1;1>1@1;1>1@1;1>1@1"}) {
            Twins.nothingButTheText(CHECK, "house " + text, Twins::full, x -> CHECK.due(text, Check.house(x, text) < 0, true));
        }
        LeastWished x = Twins.full();
        CHECK.due("a line comes", Check.house(x, "1>1@2!"), 1);
        CHECK.due("what was can't be undone", x.undo(), -1);
        CHECK.due("nor be as it was kept", x.again(0), false);
        CHECK.due("what was seen is seen still", x.count(9), 2);
        CHECK.due("the dog stays", x.count(7), 3);
        CHECK.due("the rides, too", x.count(3), 1);
    }

    private static void of() {
        CHECK.says("Promise 7", "Of one of RIDERS, what 0: HOME, 1: WISH (NONE), 2: TRUTH, 3: the FLOOR where it is (NONE: AT HOME), "
                + "4: 1 if IN, 5: how many RIDES it was IN.");
        LeastWished x = Twins.full();
        int[][] due = {{2, -1, 10, -1, 0, 1}, {3, 1, 7, 2, 1, 1}, {4, -1, 10, 0, 0, 0}, {2, 2, 10, 3, 0, 0}, {0, 1, 10, 2, 0, 1}};
        for (int i = 0; i < due.length; i++) {
            for (int what = 0; what < 6; what++) {
                CHECK.due("of(" + i + ", " + what + ")", x.of(i, what), due[i][what]);
            }
        }
        CHECK.says("Promise 7", "NoSuchElementException: none such, another what.");
        for (int i : new int[] {-1, 5, 10, 31, 32, LEAST, MOST}) {
            CHECK.none("of(" + i + ", 0)", () -> x.of(i, 0));
        }
        for (int what : new int[] {-1, 6, LEAST, MOST}) {
            CHECK.none("of(4, " + what + ")", () -> x.of(4, what));
        }
        LeastWished ten = Check.lift(5, TermsBounds.TEN);
        CHECK.due("the tenth", ten.of(9, 2), 10);
        CHECK.none("the eleventh", () -> ten.of(10, 2));
    }

    private static void set() {
        CHECK.says("Promise 8", "HOME (what 0; a FLOOR), WISH (1; a FLOOR or NONE), TRUTH (2; 0 .. 10) of one becomes v: true.");
        LeastWished x = Twins.full();
        int[][] taken = {{0, 0, 0}, {0, 4, 4}, {1, 1, -1}, {1, 4, 0}, {1, 0, 4}, {2, 1, 0}, {2, 4, 10}};
        for (int[] t : taken) {
            CHECK.due("set(" + t[0] + ", " + t[1] + ", " + t[2] + ")", x.set(t[0], t[1], t[2]), true);
            CHECK.due("of(" + t[1] + ", " + t[0] + ")", x.of(t[1], t[0]), t[2]);
        }
        CHECK.due("a home of one that is at home", x.set(0, 0, 3), true);
        CHECK.due("it is at home all the same", x.count(6), 1);
        CHECK.due("a home where one is in", x.set(0, 1, 2), true);
        CHECK.due("it is in all the same", x.count(4), 2);
        CHECK.due("nothing more can be undone", x.count(8), 2);
        CHECK.says("Promise 8", "Refused: others.");
        int[][] refused = {{0, 1, -1}, {0, 1, 5}, {0, 1, LEAST}, {0, 1, MOST}, {1, 1, -2}, {1, 1, 5}, {1, 1, LEAST}, {1, 1, MOST},
            {2, 1, -1}, {2, 1, 11}, {2, 1, LEAST}, {2, 1, MOST}, {-1, 1, 1}, {3, 1, 1}, {LEAST, 1, 1}, {MOST, 1, 1},
            {0, -1, 1}, {0, 5, 1}, {1, 5, 1}, {2, 5, 1}, {1, 10, 1}, {1, 32, 1}, {2, LEAST, 1}, {2, MOST, 1}};
        for (int[] r : refused) {
            String what = "set(" + r[0] + ", " + r[1] + ", " + r[2] + ")";
            Twins.nothing(CHECK, what, Twins::full, y -> CHECK.due(what, y.set(r[0], r[1], r[2]), false));
        }
    }

    private static void wishes(String what, LeastWished x, int... due) {
        for (int i = 0; i < due.length; i++) {
            CHECK.due(what + ": wish of " + i, x.of(i, 1), due[i]);
        }
    }

    private static void sheetKinds() {
        CHECK.says("Promise 9", "WISHES of RIDERS 0, 1, .., as a sheet tells them: bytes (kind 0), shorts (1), ints (2) "
                + "of n entries f, f + step, ..");
        LeastWished x = Check.lift(5, "3>1@0;1>3@0;4>2@0;4>2@0");
        for (int kind = 0; kind < 3; kind++) {
            CHECK.due("kind " + kind, x.sheet(kind, 4, 4, -1), 4);
            wishes("kind " + kind, x, 4, 3, 2, 1);
            CHECK.due("ten entries, kind " + kind, x.sheet(kind, 10, 1, 1), 4);
            wishes("ten entries, kind " + kind, x, 1, 2, 3, 4);
        }
        CHECK.due("ints go round", x.sheet(2, 4, MOST, LEAST + 3), 1);
        wishes("ints go round", x, -1, 2, -1, -1);
        CHECK.due("ints go round below", x.sheet(2, 4, LEAST, LEAST), 2);
        wishes("ints go round below", x, -1, 0, -1, 0);
        CHECK.says("Promise 9", "(of bytes, shorts the lowest bits, with their sign; what is no FLOOR is none)");
        int[][] bytes = {{0, 0}, {4, 4}, {5, -1}, {127, -1}, {128, -1}, {255, -1}, {256, 0}, {260, 4}, {261, -1}, {-1, -1},
            {-256, 0}, {-252, 4}, {65535, -1}, {65536, 0}, {LEAST, 0}, {MOST, -1}, {LEAST + 4, 4}};
        for (int[] b : bytes) {
            CHECK.due("byte " + b[0], x.sheet(0, 1, b[0], 0), b[1] < 0 ? 0 : 1);
            wishes("byte " + b[0], x, b[1], -1, -1, -1);
        }
        int[][] shorts = {{0, 0}, {4, 4}, {5, -1}, {256, -1}, {32767, -1}, {32768, -1}, {65535, -1}, {65536, 0}, {65540, 4},
            {65541, -1}, {-1, -1}, {-65536, 0}, {-65532, 4}, {LEAST, 0}, {MOST, -1}};
        for (int[] s : shorts) {
            CHECK.due("short " + s[0], x.sheet(1, 1, s[0], 0), s[1] < 0 ? 0 : 1);
            wishes("short " + s[0], x, s[1], -1, -1, -1);
        }
        int[][] ints = {{0, 0}, {4, 4}, {5, -1}, {-1, -1}, {256, -1}, {65536, -1}, {LEAST, -1}, {MOST, -1}};
        for (int[] i : ints) {
            CHECK.due("int " + i[0], x.sheet(2, 1, i[0], 0), i[1] < 0 ? 0 : 1);
            wishes("int " + i[0], x, i[1], -1, -1, -1);
        }
        CHECK.due("bytes wrap on their way", x.sheet(0, 4, 2, 127), 2);
        wishes("bytes wrap on their way", x, 2, -1, 0, -1);
    }

    private static void sheetRefused() {
        CHECK.says("Promise 9", "or a missing one (3): those behind it have none: how many have one.");
        LeastWished x = Check.lift(5, "3>1@0;1>3@0;4>2@0;4>2@0");
        CHECK.due("two entries", x.sheet(2, 2, 1, 1), 2);
        wishes("two entries", x, 1, 2, -1, -1);
        CHECK.due("no entry", x.sheet(1, 0, 1, 1), 0);
        wishes("no entry", x, -1, -1, -1, -1);
        CHECK.due("more entries than riders", x.sheet(0, 5, 1, 0), 4);
        CHECK.due("nobody has one", new LeastWished().sheet(0, 10, 1, 0), 0);
        CHECK.says("Promise 9", "-2: n below 0 (of kinds 0 .. 2; nothing changes)");
        for (int kind = 0; kind < 3; kind++) {
            int k = kind;
            for (int n : new int[] {-1, LEAST}) {
                Twins.nothing(CHECK, "sheet(" + k + ", " + n + ")", Twins::full, y -> CHECK.due("-2", y.sheet(k, n, 1, 1), -2));
            }
        }
        CHECK.says("Promise 9", "-3: missing (none has one).");
        for (int n : new int[] {0, 4, 10, -1, LEAST}) {
            x.sheet(2, 4, 1, 0);
            CHECK.due("sheet(3, " + n + ")", x.sheet(3, n, 1, 0), -3);
            wishes("sheet(3, " + n + ")", x, -1, -1, -1, -1);
        }
        CHECK.says("Promise 9", "NONE: another kind, n above 10 (these first).");
        int[][] none = {{4, 0}, {-1, 0}, {4, -1}, {-1, -1}, {LEAST, 0}, {MOST, 0}, {0, 11}, {1, 11}, {2, 11}, {3, 11}, {2, MOST},
            {3, MOST}, {4, 11}};
        for (int[] s : none) {
            String what = "sheet(" + s[0] + ", " + s[1] + ")";
            Twins.nothing(CHECK, what, Twins::full, y -> CHECK.due(what, y.sheet(s[0], s[1], 1, 1), -1));
        }
        CHECK.due("n just 10", x.sheet(2, 10, 1, 0), 4);
    }

    private static void dog() {
        CHECK.says("Promise 10", "THE DOG's FLOOR becomes f (NONE: there is no DOG): true.");
        LeastWished x = five();
        for (int f : new int[] {0, 4, -1, 2}) {
            CHECK.due("dog(" + f + ")", x.dog(f), true);
            CHECK.due("its floor", x.count(7), f);
        }
        x.dog(-1);
        Check.day(x, "r6");
        CHECK.due("no dog on ride 7", x.stop(), 1);
        x.dog(4);
        CHECK.due("a dog on ride 7", x.stop(), 4);
        x.dog(-1);
        CHECK.due("and none again", x.stop(), 1);
        CHECK.says("Promise 10", "Refused: others.");
        x.dog(3);
        for (int f : new int[] {5, -2, 9, LEAST, MOST}) {
            CHECK.due("dog(" + f + ")", x.dog(f), false);
            CHECK.due("its floor stays", x.count(7), 3);
        }
    }

    private static void crowd() {
        CHECK.says("Promise 11", "RIDERS come till there are n (0 .. 10), drawn: HOME, WISH, where it STANDS, of FLOORS each: "
                + "a DRAW of n: R = R times 1103515245 + 12345 (as ints; R is seed at first), (R without sign, by 65536) % n: "
                + "how many came.");
        for (int seed : new int[] {0, 1, -1, 12345, LEAST, MOST, 0x40000000}) {
            for (int n = 2; n <= 9; n++) {
                LeastWished x = new LeastWished();
                x.floors(n);
                CHECK.due("crowd(" + seed + ", 10)", x.crowd(seed, 10), 10);
                long r = seed & 0xFFFFFFFFL;
                for (int i = 0; i < 10; i++) {
                    for (int what : new int[] {0, 1, 3}) {
                        r = (r * 1103515245L + 12345L) % 4294967296L;
                        CHECK.due("of(" + i + ", " + what + ") by " + seed, x.of(i, what), r / 65536 % n);
                    }
                    CHECK.due("it stands", x.of(i, 4), 0);
                }
            }
        }
        LeastWished x = five();
        CHECK.due("crowd(1, 0)", x.crowd(1, 0), 0);
        CHECK.due("crowd(1, 1)", x.crowd(1, 1), 1);
        CHECK.due("crowd(1, 1), one being there", x.crowd(1, 1), 0);
        CHECK.due("crowd(1, 0), one being there", x.crowd(1, 0), 0);
        CHECK.due("crowd(1, 10)", x.crowd(1, 10), 9);
        CHECK.due("the seed is taken anew", x.of(1, 0) * 100 + x.of(1, 1) * 10 + x.of(1, 3),
                x.of(0, 0) * 100 + x.of(0, 1) * 10 + x.of(0, 3));
        CHECK.due("crowd(1, 10) of ten", x.crowd(1, 10), 0);
    }

    private static void crowdRefused() {
        CHECK.says("Promise 11", "Refused: another n.");
        for (int n : new int[] {-1, 11, LEAST, MOST}) {
            Twins.nothing(CHECK, "crowd(1, " + n + ")", Twins::full, x -> CHECK.due("crowd(1, " + n + ")", x.crowd(1, n), -1));
        }
        LeastWished ten = Check.lift(5, TermsBounds.TEN);
        CHECK.due("eleven, ten being there", ten.crowd(1, 11), -1);
    }
}
