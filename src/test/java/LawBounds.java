/** Boundary cases of the law: of the terms, and of promise 6. */
final class LawBounds {
    private static final Check CHECK = BoundaryTest.CHECK;
    private static final String ONE = "Terms 1";
    private static final String LAW = "Promise 6";

    private LawBounds() {
    }

    static void hold() {
        length();
        compares();
        sumsAndProducts();
        divisions();
        dashes();
        numbers();
        parentheses();
        names();
        nobody();
        asInts();
        emptyLaw();
        signsThatCanStand();
        endsTooEarly();
        moreThanForty();
    }

    /** What a law without names is worth; -1 - p in thousands, if it is none. */
    private static long worth(String law) {
        LeastWished x = new LeastWished();
        int answer = Check.law(x, law);
        return answer == 0 ? x.worthOf(1) : 1000000000000L * answer;
    }

    private static void worth(String law, long due) {
        CHECK.due(law, worth(law), due);
    }

    private static void wrong(String law, int p) {
        LeastWished x = new LeastWished();
        x.floors(9);
        Check.law(x, "f*f");
        CHECK.due("law " + law, Check.law(x, law), -1 - p);
        CHECK.due("the text behind " + law, x.count(11), 0);
        CHECK.due("the law is as it was behind " + law, x.worthOf(8), 64);
    }

    private static void length() {
        CHECK.says(ONE, "THE LAW is a text of at most 40 signs (at first none: w).");
        LeastWished x = Check.lift(5, "3>4@0!");
        CHECK.due("at first w", x.worthOf(4), 1);
        CHECK.due("at first w", x.worthOf(3), 0);
        worth("1+".repeat(19) + "11", 30);
        wrong("1+".repeat(20) + "1", 40);
    }

    private static void compares() {
        CHECK.says(ONE, "EXPRESSION: < > = bind least (two; 1 or 0; not one behind the other)");
        worth("1<2", 1);
        worth("2<2", 0);
        worth("2>2", 0);
        worth("2>1", 1);
        worth("2=2", 1);
        worth("2=1", 0);
        worth("1<2+3", 1);
        worth("5-2=3", 1);
        worth("2*3>5", 1);
        worth("0<0-1", 0);
        wrong("1<2<3", 3);
        wrong("1=1=1", 3);
        wrong("1>0=1", 3);
        wrong("1<2+1<3", 5);
        wrong("1<(2<3)<4", 7);
        wrong("(1<2<3)", 4);
        worth("(1<2)<3", 1);
        worth("1<(2<3)", 0);
        worth("(1<2)+(1<2)+(1<2)=3", 1);
        worth("((1<2)=(3<4))=(5>4)", 1);
        wrong("((1<2)=(3<4)=(5>4))", 12);
        wrong("1<", 2);
        wrong("<1", 0);
        wrong("1<=1", 2);
    }

    private static void sumsAndProducts() {
        CHECK.says(ONE, "then + - (from the left)");
        worth("9-4-3", 2);
        worth("9-4+3", 8);
        worth("9-(4+3)", 2);
        worth("1+2*3", 7);
        worth("9-2*3", 3);
        wrong("+1", 0);
        wrong("1++1", 2);
        wrong("1-+1", 2);
    }

    private static void divisions() {
        CHECK.says(ONE, "then * / (from the left; by 0: 0; cut to 0)");
        worth("8/4*2", 4);
        worth("8*3/5", 4);
        worth("99/9/2", 5);
        worth("7/0", 0);
        worth("0/0", 0);
        worth("-7/0", 0);
        worth("7/0/0+1", 1);
        worth("7/(3-3)*9+2", 2);
        worth("7/2", 3);
        worth("1/2", 0);
        worth("-7/2", -3);
        worth("7/-2", -3);
        worth("-7/-2", 3);
        worth("(0-7)/2", -3);
        worth("-1/2", 0);
        wrong("*1", 0);
        wrong("/1", 0);
        wrong("1*/1", 2);
    }

    private static void dashes() {
        CHECK.says(ONE, "then - ahead of a thing (any many)");
        worth("-5", -5);
        worth("--5", 5);
        worth("---5", -5);
        worth("-".repeat(39) + "5", -5);
        worth("-".repeat(38) + "5", 5);
        worth("2*-3", -6);
        worth("2--3", 5);
        worth("2---3", -1);
        worth("-2*-3", 6);
        worth("-(2+3)*2", -10);
        worth("3<-3", 0);
        worth("-2-3", -5);
        wrong("-", 1);
        wrong("-*1", 1);
        wrong("(-)", 2);
    }

    private static void numbers() {
        CHECK.says(ONE, "things: a NUMBER of 1 to 3 digits");
        worth("0", 0);
        worth("9", 9);
        worth("10", 10);
        worth("99", 99);
        worth("100", 100);
        worth("999", 999);
        worth("007", 7);
        worth("000", 0);
        wrong("1000", 3);
        wrong("0001", 3);
        wrong("1+1000", 5);
        worth("100+100", 200);
        worth("123*100+456", 12756);
        wrong("1 ", 1);
        wrong("1(", 1);
        wrong("(1)1", 3);
        wrong("1f", 1);
        wrong("f1", 1);
    }

    private static void parentheses() {
        CHECK.says(ONE, "an EXPRESSION in ( ) (at most 4 in one another)");
        worth("((((7))))", 7);
        wrong("(((((7)))))", 4);
        worth("((((1)))+(((2))))", 3);
        wrong("((((1)))+((((2)))))", 12);
        worth("(1)+(1)+(1)+(1)+(1)+(1)+(1)+(1)+(1)+(1)", 10);
        worth("((((1))))*((((5))))", 5);
        wrong("((((1))))+(((((1)))))", 14);
        wrong("-(-(-(-(-(1)))))", 9);
        wrong("()", 1);
        wrong("1)", 1);
        wrong("(1))", 3);
        wrong(")", 0);
    }

    private static int worth(LeastWished x, String law, int f) {
        CHECK.due("law " + law, Check.law(x, law), 0);
        return x.worthOf(f);
    }

    private static void names() {
        CHECK.says(ONE, "and, of a FLOOR: f its number, w how many of those IN have it as their WISH, "
                + "d how far it is from where THE LIFT is, s how many STAND there, n how many are IN, r RIDES, "
                + "l the FLOOR where THE LIFT is.");
        LeastWished x = Check.lift(9, "7>8@0!;7>8@0!;7>0@0!;7>8@0;8>-@4;8>4@4;5>-@0!");
        x.dog(4);
        Check.law(x, "d+9*(f<r+1)-(f=4)*99");
        x.ride();
        CHECK.due("the lift is on 4", x.count(2), 4);
        CHECK.due("f of the lowest", worth(x, "f", 0), 0);
        CHECK.due("f of the highest", worth(x, "f", 8), 8);
        CHECK.due("w: two of those in", worth(x, "w", 8), 2);
        CHECK.due("w: one of them", worth(x, "w", 0), 1);
        CHECK.due("w: one that stands does not count", worth(x, "w", 4), 0);
        CHECK.due("d of the lowest", worth(x, "d", 0), 4);
        CHECK.due("d of the highest", worth(x, "d", 8), 4);
        CHECK.due("d of where it is", worth(x, "d", 4), 0);
        CHECK.due("s: who is in does not stand", worth(x, "s", 4), 2);
        CHECK.due("s: one stayed on 0", worth(x, "s", 0), 1);
        CHECK.due("s: none", worth(x, "s", 8), 0);
        CHECK.due("n", worth(x, "n", 0), 4);
        CHECK.due("r", worth(x, "r", 0), 1);
        CHECK.due("l", worth(x, "l", 0), 4);
        Check.law(x, "0-(f=5)");
        x.ride();
        CHECK.due("one came home", x.count(6), 64);
        CHECK.due("n then", worth(x, "n", 0), 3);
        CHECK.due("s where it came home", worth(x, "s", 5), 0);
        CHECK.due("r then", worth(x, "r", 0), 2);
        x.undo();
        CHECK.due("r when undone", worth(x, "r", 0), 1);
        CHECK.due("n when undone", worth(x, "n", 0), 4);
    }

    private static void nobody() {
        LeastWished x = new LeastWished();
        for (String law : new String[] {"w", "s", "n", "r", "l"}) {
            CHECK.due("nobody, no ride: " + law, worth(x, law, 1), 0);
        }
    }

    private static void asInts() {
        CHECK.says(ONE, "As ints.");
        String least = "512*512*512*16";
        worth(least, Integer.MIN_VALUE);
        worth(least + "-1", Integer.MAX_VALUE);
        worth(least + "-1+1", Integer.MIN_VALUE);
        worth("-(" + least + ")", Integer.MIN_VALUE);
        worth(least + "/-1", Integer.MIN_VALUE);
        worth(least + "/-1/-1", Integer.MIN_VALUE);
        worth(least + "*2", 0);
        worth("999*999*999*999", (int) 996005996001L);
        worth("-999*999*999*3", (int) -2991008997L);
        worth(least + "<0", 1);
        worth(least + "-1>0", 1);
        worth("0<" + least + "-1", 1);
        worth(least + "=-(" + least + ")", 1);
        LeastWished x = new LeastWished();
        x.floors(5);
        Check.law(x, least + "-1+(f=3)");
        CHECK.due("the stop is where it goes round", x.stop(), 3);
        Check.law(x, least + "-(f=1)");
        CHECK.due("and not where it does so the other way", x.stop(), 2);
    }

    private static void emptyLaw() {
        CHECK.says(LAW, "THE TEXT is THE LAW (an empty one: none): 0.");
        LeastWished x = Check.lift(5, "3>4@0!");
        CHECK.due("a law", Check.law(x, "f"), 0);
        CHECK.due("by it", x.worthOf(4), 4);
        CHECK.due("the text is empty", x.count(11), 0);
        CHECK.due("an empty one", x.law(), 0);
        CHECK.due("w again", x.worthOf(4), 1);
        CHECK.due("the shortest", Check.law(x, "7"), 0);
        CHECK.due("by it", x.worthOf(4), 7);
        CHECK.due("the law is no text that is left", x.end(1), false);
        x.floors(9);
        CHECK.due("floors() leave it", x.worthOf(4), 7);
    }

    private static void signsThatCanStand() {
        CHECK.says(LAW, "-1 - p: the sign at p can't stand there");
        String things = "0123456789fwdsnrl(-";
        String joins = "+-*/<>=";
        String noCompare = "+-*/";
        stand("", things);
        stand("-", things);
        stand("w+", things);
        stand("w<", things);
        stand("w*(", things);
        stand("((((", things.replace("(", ""));
        stand("(((w)+((", things.replace("(", ""));
        stand("((((w)", joins + ")");
        stand("w", joins);
        stand("(w)", joins);
        stand("(w", joins + ")");
        stand("w<w", noCompare);
        stand("w<w*2", noCompare + "0123456789");
        stand("w<(w", joins + ")");
        stand("w<(w=w", noCompare + ")");
        stand("w<(w=w)", noCompare);
        stand("(w<w)", joins);
        stand("(w<w)+(w", joins + ")");
        stand("1", joins + "0123456789");
        stand("12", joins + "0123456789");
        stand("123", joins);
        stand("000", joins);
        stand("(123", joins + ")");
        stand("123+456", joins);
    }

    /** Of all 256 signs just those can stand behind the text; the others are wrong at their place. */
    private static void stand(String text, String signs) {
        for (char sign = 0; sign < 256; sign++) {
            LeastWished x = new LeastWished();
            int answer = Check.law(x, text + sign);
            boolean can = answer == 0 || answer == -1 - (text.length() + 1);
            boolean due = signs.indexOf(sign) >= 0;
            String what = "law " + text + " and sign " + (int) sign;
            CHECK.due(what, due ? can : answer == -1 - text.length(), true);
        }
    }

    private static void endsTooEarly() {
        CHECK.says(LAW, "its end, if it ends too early");
        String whole = "-(f+12)*((w<s)-d)/n=l+(r>3)-999";
        // Where a prefix of it is a law of its own, by hand: outside of ( ) and behind a thing.
        boolean[] isLaw = new boolean[whole.length() + 1];
        for (int k : new int[] {7, 17, 19, 21, 27, 29, 30, 31}) {
            isLaw[k] = true;
        }
        CHECK.due("its signs", whole.length(), 31);
        for (int k = 1; k <= whole.length(); k++) {
            LeastWished x = new LeastWished();
            CHECK.due("law " + whole.substring(0, k), Check.law(x, whole.substring(0, k)), isLaw[k] ? 0 : -1 - k);
        }
        CHECK.due("40 signs that end too early", Check.law(new LeastWished(), "1+".repeat(20)), -41);
        CHECK.due("40 signs with a ( open", Check.law(new LeastWished(), "(1+" + "1+".repeat(18) + "1"), -41);
        CHECK.due("39 signs that end too early", Check.law(new LeastWished(), "1+".repeat(19) + "-"), -40);
    }

    private static void moreThanForty() {
        CHECK.says(LAW, "40, if it has more and the first 40 could go on or end");
        String forty = "1+".repeat(19) + "11";
        CHECK.due("40 signs", Check.law(new LeastWished(), forty), 0);
        wrong(forty + "1", 40);
        wrong(forty + "+1", 40);
        wrong(forty + "x", 40);
        wrong(forty + "1".repeat(40), 40);
        wrong("1+".repeat(40), 40);
        wrong("(1+" + "1+".repeat(18) + "1" + ")", 40);
        wrong("-".repeat(80), 40);
        wrong("-".repeat(41), 40);
        wrong("-".repeat(40) + "1", 40);
        wrong("1+".repeat(18) + "1234", 39);
        wrong("1+".repeat(18) + "12345", 39);
        wrong("1+".repeat(18) + "+111" + "1".repeat(40), 36);
        wrong("1+".repeat(19) + "1x" + "1".repeat(40), 39);
        wrong("x" + "1".repeat(79), 0);
        wrong("1<".repeat(40), 3);
    }
}
