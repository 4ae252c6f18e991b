import java.io.IOException;
import java.nio.file.Files;
import java.nio.file.Path;
import java.util.LinkedHashMap;
import java.util.List;
import java.util.Map;
import java.util.regex.Matcher;
import java.util.regex.Pattern;

/**
 * The document sentence by sentence, with the boundary cases that each names. Every check stands behind the words it is
 * about (Check.says), and at the end all words of the terms and of promises 1 to 47 have to be among them.
 */
public final class BoundaryTest {
    static final Check CHECK = new Check("BoundaryTest");
    private static final Path DOCUMENT = Path.of("../shared/DOC.md");

    public static void main(String[] args) throws IOException {
        TermsBounds.hold();
        LawBounds.hold();
        HouseBounds.hold();
        RidesBounds.hold();
        WhereBounds.hold();
        PlansBounds.hold();
        SeenBounds.hold();
        OddsBounds.hold();
        KeptBounds.hold();
        everyWordIsQuoted();
        CHECK.end();
    }

    private static void everyWordIsQuoted() throws IOException {
        Map<String, String> sections = sections(Files.readString(DOCUMENT));
        CHECK.says("What it is", "An object is used for at most 512 calls");
        CHECK.due("sections of the document", sections.size(), 1 + 2 + 47);
        for (Map.Entry<String, List<String>> e : CHECK.quotes().entrySet()) {
            for (String words : e.getValue()) {
                boolean there = sections.getOrDefault(e.getKey(), "").contains(words);
                CHECK.due(e.getKey() + " of the document says \"" + words + "\"", there, true);
            }
        }
        for (Map.Entry<String, String> e : sections.entrySet()) {
            String left = without(e.getValue(), CHECK.quotes().getOrDefault(e.getKey(), List.of()));
            CHECK.due(e.getKey() + ", no test quotes \"" + left + "\"", left.isEmpty(), true);
        }
    }

    /** What is left of a text without the quotes and without signs between them. */
    private static String without(String text, List<String> quotes) {
        StringBuilder left = new StringBuilder(text);
        for (String words : quotes) {
            int p = text.indexOf(words);
            for (int k = p; p >= 0 && k < p + words.length(); k++) {
                left.setCharAt(k, ' ');
            }
        }
        return left.toString().replaceAll("[ .,:;()]+", " ").strip();
    }

    private static Map<String, String> sections(String doc) {
        String plain = doc.replace("```text", " ").replace("```", " ").replaceAll("[ \t]+", " ");
        Map<String, String> sections = new LinkedHashMap<>();
        put(sections, "What it is", plain, "(An object is used for .*?)\n");
        put(sections, "Terms 1", plain, "(?s)\n1\\. (FLOORS.*?)\n2\\. ROW");
        put(sections, "Terms 2", plain, "(?s)\n2\\. (ROW.*?)\nAhead of the calls");
        Matcher m = Pattern.compile("## Promise (\\d+): .*\n+`[^`]*`: (.*)").matcher(plain);
        while (m.find()) {
            sections.put("Promise " + m.group(1), m.group(2).strip());
        }
        return sections;
    }

    private static void put(Map<String, String> sections, String heading, String doc, String form) {
        Matcher m = Pattern.compile(form).matcher(doc);
        if (m.find()) {
            sections.put(heading, m.group(1).replaceAll("\\s+", " ").strip());
        }
    }
}
