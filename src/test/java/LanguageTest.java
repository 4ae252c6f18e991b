import java.io.IOException;
import java.lang.reflect.Constructor;
import java.lang.reflect.Field;
import java.lang.reflect.Method;
import java.lang.reflect.Modifier;
import java.nio.file.Files;
import java.nio.file.Path;
import java.util.HashSet;
import java.util.List;
import java.util.Set;
import java.util.TreeSet;
import java.util.regex.Matcher;
import java.util.regex.Pattern;

/** The face is the document's, and the source keeps to what can be seen of LANGUAGE.md by reading it. */
public final class LanguageTest {
    private static final Check CHECK = new Check("LanguageTest");
    private static final Path SOURCE = Path.of("src/main/java/LeastWished.java");
    private static final Path DOCUMENT = Path.of("../shared/DOC.md");
    private static final String[] FORBIDDEN = {"->", "::", "\\btry\\b", "\\bcatch\\b", "\\bfinally\\b", "\\bassert\\b",
        "\\bsynchronized\\b", "\\bString\\b", "\\bSystem\\.(?!arraycopy)", "\\bdouble\\b", "\\bfloat\\b", "\\w+Exact\\b",
        "\\bequals\\b", "\\bhashCode\\b", "\\btoString\\b", "\\bRandom\\b", "\\bThread\\b", "\\bObject\\b", "\\[\\]\\[\\]"};

    private static final Pattern MADE = Pattern.compile("\\bnew (?!NoSuchElementException\\()|\\bclone\\(|\\bcopyOf");

    public static void main(String[] args) throws IOException {
        List<String> lines = Files.readAllLines(SOURCE);
        Set<String> names = faceIsTheDocuments();
        words(lines);
        methods(lines, names);
        classes();
        CHECK.end();
    }

    private static Set<String> faceIsTheDocuments() throws IOException {
        String doc = Files.readString(DOCUMENT);
        String face = doc.substring(doc.indexOf("public final class"), doc.indexOf("## Terms"));
        Set<String> due = new TreeSet<>();
        Set<String> names = new HashSet<>();
        Matcher m = Pattern.compile("public (\\w+) (\\w+)\\(([^)]*)\\)( throws NoSuchElementException)?;").matcher(face);
        while (m.find()) {
            names.add(m.group(2));
            String types = m.group(3).replaceAll("(\\w+) \\w+", "$1").replace(" ", "");
            due.add("public " + m.group(1) + " " + m.group(2) + "(" + types + ")"
                    + (m.group(4) == null ? "" : " throws java.util.NoSuchElementException"));
        }
        Set<String> got = new TreeSet<>();
        for (Method method : LeastWished.class.getDeclaredMethods()) {
            if (!Modifier.isPrivate(method.getModifiers())) {
                got.add(method.toString().replace("LeastWished.", ""));
            }
        }
        CHECK.due("methods of the face", due.size(), 46);
        CHECK.due("the face is " + got, got.equals(due), true);
        Set<String> open = new TreeSet<>();
        for (Field f : LeastWished.class.getDeclaredFields()) {
            if (!Modifier.isPrivate(f.getModifiers())) {
                open.add(f.toString());
            }
        }
        CHECK.due("the face has " + open, open.equals(Set.of("public static final int LeastWished.NONE")), true);
        CHECK.due("NONE", LeastWished.NONE, -1);
        Constructor<?>[] made = LeastWished.class.getDeclaredConstructors();
        CHECK.due("constructors", made.length, 1);
        CHECK.due(made[0] + " is the document's", made[0].toString().equals("public LeastWished()"), true);
        CHECK.due("public and final", LeastWished.class.getModifiers(), Modifier.PUBLIC | Modifier.FINAL);
        return names;
    }

    private static String withoutComment(String line) {
        int p = line.indexOf("//");
        String code = p < 0 ? line : line.substring(0, p);
        return code.strip().startsWith("/**") || code.strip().startsWith("*") ? "" : code;
    }

    private static void words(List<String> lines) {
        for (int i = 0; i < lines.size(); i++) {
            String code = withoutComment(lines.get(i));
            for (String word : FORBIDDEN) {
                boolean there = Pattern.compile(word).matcher(code).find();
                CHECK.due("line " + (i + 1) + " has " + word, there, false);
            }
            if (code.startsWith("import")) {
                boolean known = code.equals("import java.util.Arrays;") || code.equals("import java.util.NoSuchElementException;");
                CHECK.due("line " + (i + 1) + " imports", known, true);
            }
            CHECK.due("line " + (i + 1) + " is too long", lines.get(i).length() > 130, false);
            for (char c : lines.get(i).toCharArray()) {
                CHECK.due("line " + (i + 1) + " has a sign beyond 127", c > 127, false);
            }
        }
    }

    private static void methods(List<String> lines, Set<String> names) {
        Pattern head = Pattern.compile("^( +)((?:public |private |static |final )*)(?:[\\w\\[\\]]+ )?(\\w+)\\(([^)]*)\\)[^;]*\\{$");
        for (int i = 0; i < lines.size(); i++) {
            Matcher m = head.matcher(lines.get(i));
            if (!m.matches() || m.group(3).matches("if|for|while|switch|catch")) {
                continue;
            }
            String end = m.group(1) + "}";
            int k = i;
            while (k < lines.size() && !lines.get(k).equals(end)) {
                k++;
            }
            CHECK.due(m.group(3) + " has too many lines", k - i + 1 > 60, false);
            CHECK.due(m.group(3) + " has too many parameters", m.group(4).split(",").length > 7, false);
            makesNothing(m.group(3), lines.subList(i, k));
            boolean ofFace = m.group(2).contains("public");
            CHECK.due(m.group(3) + " bears a public name", !ofFace && names.contains(m.group(3)), false);
        }
    }

    /** Rule 12: rows and objects are made in constructors and used again; a call makes an exception at most. */
    private static void makesNothing(String method, List<String> body) {
        boolean isConstructor = Character.isUpperCase(method.charAt(0));
        for (String line : body) {
            boolean makes = MADE.matcher(withoutComment(line)).find();
            CHECK.due(method + " makes something: " + line.strip(), makes && !isConstructor, false);
        }
    }

    private static void classes() {
        Class<?>[] inside = LeastWished.class.getDeclaredClasses();
        CHECK.due("too many classes", inside.length > 11, false);
        for (Class<?> c : inside) {
            CHECK.due(c.getName() + " is static", Modifier.isStatic(c.getModifiers()), true);
            CHECK.due(c.getName() + " is open", (c.getModifiers() & (Modifier.PUBLIC | Modifier.PROTECTED)) != 0, false);
            fields(c);
        }
        fields(LeastWished.class);
    }

    private static void fields(Class<?> c) {
        int own = 0;
        for (Field f : c.getDeclaredFields()) {
            boolean isStatic = Modifier.isStatic(f.getModifiers());
            own += isStatic ? 0 : 1;
            CHECK.due(f + " is static and not final", isStatic && !Modifier.isFinal(f.getModifiers()), false);
        }
        CHECK.due(c.getName() + " has too many fields", own > 20, false);
    }
}
