import java.util.ArrayList;
import java.util.Arrays;
import java.util.LinkedHashMap;
import java.util.List;
import java.util.Map;
import java.util.NoSuchElementException;

/** What the tests share: texts told sign by sign, answers compared, a closing line. */
final class Check {
    private final String name;
    private int checks = 0;
    private int wrong = 0;
    // What checks are about: words of the document, by the heading under which they stand there.
    private final Map<String, List<String>> quotes = new LinkedHashMap<>();
    private String about = "";
    private int checksBefore = 0;

    Check(String name) {
        this.name = name;
    }

    interface Call {
        long answer();
    }

    /** Puts a text of up to 80 signs (chars 0 to 255) in place of the one that is there. */
    static void text(LeastWished x, String text) {
        x.end(0);
        for (int p = 0; p < text.length(); p += 4) {
            int v = 0;
            for (int k = 0; k < 4; k++) {
                int sign = p + k < text.length() ? text.charAt(p + k) : 0;
                v = (v << 8) | (sign & 255);
            }
            x.sign(v);
        }
        x.end(text.length());
    }

    static int house(LeastWished x, String text) {
        text(x, text);
        return x.house();
    }

    static int law(LeastWished x, String text) {
        text(x, text);
        return x.law();
    }

    static int day(LeastWished x, String text) {
        text(x, text);
        return x.day();
    }

    /** A new object of so many floors with the riders of a text. */
    static LeastWished lift(int floors, String house) {
        LeastWished x = new LeastWished();
        x.floors(floors);
        house(x, house);
        return x;
    }

    static List<Long> rowOf(LeastWished x) {
        List<Long> row = new ArrayList<>();
        for (int i = 0; i < x.count(10); i++) {
            row.add(x.row(i));
        }
        return row;
    }

    /** From here on checks are about these words of the document, which stand there under that heading. */
    void says(String heading, String words) {
        sentenceHasChecks();
        quotes.computeIfAbsent(heading, h -> new ArrayList<>()).add(words);
        about = heading + ", \"" + words + "\": ";
    }

    Map<String, List<String>> quotes() {
        return quotes;
    }

    private void sentenceHasChecks() {
        if (!about.isEmpty() && checks == checksBefore) {
            fail("nothing is checked");
        }
        checksBefore = checks;
    }

    private void fail(String what) {
        wrong++;
        System.out.println(name + ": " + about + what);
    }

    void due(String what, long got, long want) {
        checks++;
        if (got != want) {
            fail(what + " answered " + got + ", due is " + want);
        }
    }

    void due(String what, boolean got, boolean want) {
        due(what, got ? 1 : 0, want ? 1 : 0);
    }

    void row(String what, LeastWished x, long... want) {
        checks++;
        List<Long> due = new ArrayList<>();
        for (long v : want) {
            due.add(v);
        }
        List<Long> got = rowOf(x);
        if (!got.equals(due)) {
            fail("the row of " + what + " is " + got + ", due is " + Arrays.toString(want));
        }
    }

    /** An answer and the row that is told with it. */
    void told(String what, long got, long want, LeastWished x, long... row) {
        due(what, got, want);
        row(what, x, row);
    }

    void same(String what, String got, String want) {
        checks++;
        if (!got.equals(want)) {
            fail(what + " left\n  " + got + "\ndue is\n  " + want);
        }
    }

    void none(String what, Call call) {
        checks++;
        try {
            long got = call.answer();
            fail(what + " answered " + got + ", due is NoSuchElementException");
        } catch (NoSuchElementException e) {
            // as is due
        }
    }

    void end() {
        sentenceHasChecks();
        System.out.println(name + ": " + checks + " checks, " + wrong + " wrong");
        if (wrong != 0 || checks == 0) {
            System.exit(1);
        }
    }
}
