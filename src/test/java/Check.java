import java.util.ArrayList;
import java.util.Arrays;
import java.util.List;
import java.util.NoSuchElementException;

/** What the tests share: texts told sign by sign, answers compared, a closing line. */
final class Check {
    private final String name;
    private int checks = 0;
    private int wrong = 0;

    Check(String name) {
        this.name = name;
    }

    interface Call {
        long answer();
    }

    /** Puts a text of up to 80 signs (chars 0 to 255) in place of the one that is there. */
    static void text(LeastWished x, String text) {
        x.end(0);
        for (int p = 0; p < text.length(); p += 4) {
            int v = 0;
            for (int k = 0; k < 4; k++) {
                int sign = p + k < text.length() ? text.charAt(p + k) : 0;
                v = (v << 8) | (sign & 255);
            }
            x.sign(v);
        }
        x.end(text.length());
    }

    static int house(LeastWished x, String text) {
        text(x, text);
        return x.house();
    }

    static int law(LeastWished x, String text) {
        text(x, text);
        return x.law();
    }

    static int day(LeastWished x, String text) {
        text(x, text);
        return x.day();
    }

    /** A new object of so many floors with the riders of a text. */
    static LeastWished lift(int floors, String house) {
        LeastWished x = new LeastWished();
        x.floors(floors);
        house(x, house);
        return x;
    }

    static List<Long> rowOf(LeastWished x) {
        List<Long> row = new ArrayList<>();
        for (int i = 0; i < x.count(10); i++) {
            row.add(x.row(i));
        }
        return row;
    }

    void due(String what, long got, long want) {
        checks++;
        if (got != want) {
            wrong++;
            System.out.println(name + ": " + what + " answered " + got + ", due is " + want);
        }
    }

    void due(String what, boolean got, boolean want) {
        due(what, got ? 1 : 0, want ? 1 : 0);
    }

    void row(String what, LeastWished x, long... want) {
        checks++;
        List<Long> due = new ArrayList<>();
        for (long v : want) {
            due.add(v);
        }
        List<Long> got = rowOf(x);
        if (!got.equals(due)) {
            wrong++;
            System.out.println(name + ": the row of " + what + " is " + got + ", due is " + Arrays.toString(want));
        }
    }

    void none(String what, Call call) {
        checks++;
        try {
            long got = call.answer();
            wrong++;
            System.out.println(name + ": " + what + " answered " + got + ", due is NoSuchElementException");
        } catch (NoSuchElementException e) {
            // as is due
        }
    }

    void end() {
        System.out.println(name + ": " + checks + " checks, " + wrong + " wrong");
        if (wrong != 0 || checks == 0) {
            System.exit(1);
        }
    }
}
