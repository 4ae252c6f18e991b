import java.io.IOException;
import java.lang.reflect.InvocationTargetException;
import java.lang.reflect.Method;
import java.lang.reflect.Modifier;
import java.net.URL;
import java.net.URLClassLoader;
import java.nio.file.Files;
import java.nio.file.Path;
import java.util.ArrayList;
import java.util.Comparator;
import java.util.List;
import java.util.regex.Matcher;
import java.util.regex.Pattern;
import java.util.stream.Stream;
import javax.tools.JavaCompiler;
import javax.tools.ToolProvider;

/** README.md says how to use the class: its examples compile and answer as they say, and it names every call and test. */
public final class ReadmeTest {
    private static final Check CHECK = new Check("ReadmeTest");
    private static final Path README = Path.of("README.md");
    private static final Path TESTS = Path.of("src/test/java");
    // An example's line: a call, and behind // the answer that it says is due.
    private static final Pattern CALL = Pattern.compile("(x\\.\\w+\\(.*?\\));\\s+// (true|false|-?\\d+)\\b.*");

    public static void main(String[] args) throws IOException, ReflectiveOperationException {
        String readme = Files.readString(README);
        namesEveryCall(readme);
        namesEveryTest(readme);
        examplesHold(blocksOf(readme));
        CHECK.end();
    }

    /** What an example's line answered; examples call it once they are compiled. */
    public static void answered(String call, long got, long want) {
        CHECK.due(call, got, want);
    }

    public static void answered(String call, boolean got, boolean want) {
        CHECK.due(call, got, want);
    }

    private static void namesEveryCall(String readme) {
        for (Method m : LeastWished.class.getDeclaredMethods()) {
            if (Modifier.isPublic(m.getModifiers())) {
                CHECK.due("names " + m.getName(), readme.contains("`" + m.getName() + "`"), true);
            }
        }
    }

    private static void namesEveryTest(String readme) throws IOException {
        try (Stream<Path> files = Files.list(TESTS)) {
            for (Path file : files.toList()) {
                String name = file.getFileName().toString().replace(".java", "");
                CHECK.due("names " + name, readme.contains("`" + name + "`"), true);
            }
        }
        CHECK.due("says how to run them", readme.contains("`.ci/run`"), true);
    }

    private static List<String> blocksOf(String readme) {
        List<String> blocks = new ArrayList<>();
        Matcher m = Pattern.compile("(?s)```java\n(.*?)```").matcher(readme);
        while (m.find()) {
            blocks.add(m.group(1));
        }
        return blocks;
    }

    private static void examplesHold(List<String> blocks) throws IOException, ReflectiveOperationException {
        Path dir = Files.createTempDirectory("readme");
        try {
            Path source = dir.resolve("Examples.java");
            Files.writeString(source, sourceOf(blocks));
            JavaCompiler compiler = ToolProvider.getSystemJavaCompiler();
            boolean compiled = compiler != null && compiler.run(null, null, null, "-cp", System.getProperty("java.class.path"),
                    "-d", dir.toString(), source.toString()) == 0;
            CHECK.due("the examples compile", compiled, true);
            if (compiled) {
                run(dir);
            }
        } finally {
            delete(dir);
        }
    }

    /** Each example is a method of its own; one that begins with static is a method already. */
    private static String sourceOf(List<String> blocks) {
        StringBuilder methods = new StringBuilder();
        StringBuilder calls = new StringBuilder();
        int examples = 0;
        for (String block : blocks) {
            if (block.startsWith("static ")) {
                methods.append(block);
                continue;
            }
            methods.append("static void example").append(examples).append("() {\n");
            for (String line : block.split("\n")) {
                methods.append(checked(line)).append('\n');
            }
            methods.append("}\n");
            calls.append("example").append(examples).append("();\n");
            examples++;
        }
        CHECK.due("has examples", examples > 0, true);
        return "public final class Examples {\n" + methods + "public static void run() {\n" + calls + "}\n}\n";
    }

    /** Every call of an example tells its answer; all other lines stay as they are. */
    private static String checked(String line) {
        Matcher m = CALL.matcher(line);
        CHECK.due("tells the answer: " + line, line.startsWith("x.") && !m.matches(), false);
        if (!m.matches()) {
            return line;
        }
        return "ReadmeTest.answered(\"" + m.group(1) + "\", " + m.group(1) + ", " + m.group(2) + ");";
    }

    private static void run(Path dir) throws IOException, ReflectiveOperationException {
        try (URLClassLoader loader = new URLClassLoader(new URL[] {dir.toUri().toURL()}, ReadmeTest.class.getClassLoader())) {
            loader.loadClass("Examples").getMethod("run").invoke(null);
        } catch (InvocationTargetException e) {
            CHECK.due("an example throws " + e.getCause(), true, false);
        }
    }

    private static void delete(Path dir) throws IOException {
        try (Stream<Path> files = Files.walk(dir)) {
            for (Path file : files.sorted(Comparator.reverseOrder()).toList()) {
                Files.delete(file);
            }
        }
    }
}
