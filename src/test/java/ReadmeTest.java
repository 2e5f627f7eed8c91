import java.io.IOException;
import java.lang.reflect.Field;
import java.lang.reflect.Method;
import java.lang.reflect.Modifier;
import java.net.URL;
import java.net.URLClassLoader;
import java.nio.charset.StandardCharsets;
import java.nio.file.Files;
import java.nio.file.Path;
import java.util.Comparator;
import java.util.List;
import java.util.regex.Matcher;
import java.util.regex.Pattern;
import java.util.stream.Stream;
import javax.tools.JavaCompiler;
import javax.tools.ToolProvider;

/** What README.md says: its example, the calls and files that it names, and the command for the tests. */
public final class ReadmeTest {
    private static final Pattern ANSWERED =
        Pattern.compile("(?:int (\\w+) = )?(.+);\\s*// (-?\\d+|true|false)(?:: .*)?");
    private static final Pattern REFUSED = Pattern.compile("(.+;)\\s*// throws (\\w+Exception)");
    private static final Pattern NAMED_FILE = Pattern.compile("`([.\\w/]+\\.(?:java|md))`");

    private static int passed = 0;
    private static int failed = 0;

    private static void check(String what, boolean fine) {
        if (fine) {
            passed++;
        } else {
            failed++;
            System.out.println("not so: " + what);
        }
    }

    /** Called by the example: counts an answer that it names. */
    public static void due(String line, Object got, Object want) {
        check(line + " answered " + got, got.equals(want));
    }

    private static String between(String text, String start, String end) {
        int from = text.indexOf(start);
        int to = from < 0 ? -1 : text.indexOf(end, from + start.length());
        return to < 0 ? "" : text.substring(from + start.length(), to);
    }

    /** A line of the example with a look at the answer that is told behind it. */
    private static String checked(String line) {
        String quoted = "\"" + line.trim().replace("\"", "\\\"") + "\"";
        Matcher refused = REFUSED.matcher(line);
        if (refused.matches()) {
            return "try { " + refused.group(1) + " ReadmeTest.due(" + quoted + ", \"nothing\", 0); } catch ("
                + refused.group(2) + " e) { ReadmeTest.due(" + quoted + ", 0, 0); }";
        }
        Matcher answered = ANSWERED.matcher(line);
        if (!answered.matches()) {
            return line;
        }
        String name = answered.group(1);
        String call = name == null ? answered.group(2) : name;
        String made = name == null ? "" : "int " + name + " = " + answered.group(2) + "; ";
        return made + "ReadmeTest.due(" + quoted + ", " + call + ", " + answered.group(3) + ");";
    }

    private static void checkExample(String readme) throws IOException, ReflectiveOperationException {
        List<String> lines = between(readme, "```java\n", "```").lines().map(ReadmeTest::checked).toList();
        check("there is an example", !lines.isEmpty());
        String source = "import java.util.*; public class ReadmeExample { public static void run() {\n"
            + String.join("\n", lines) + "\n} }\n";
        Path folder = Files.createTempDirectory("readme");
        try {
            Path file = Files.writeString(folder.resolve("ReadmeExample.java"), source, StandardCharsets.UTF_8);
            JavaCompiler compiler = ToolProvider.getSystemJavaCompiler();
            int end = compiler.run(null, null, null, "-d", folder.toString(),
                "-cp", System.getProperty("java.class.path"), file.toString());
            check("the example compiles", end == 0);
            if (end == 0) {
                runExample(folder);
            }
        } finally {
            remove(folder);
        }
    }

    private static void runExample(Path folder) throws IOException, ReflectiveOperationException {
        int before = passed + failed;
        try (URLClassLoader loader = new URLClassLoader(new URL[] {folder.toUri().toURL()})) {
            loader.loadClass("ReadmeExample").getMethod("run").invoke(null);
        }
        check("the example names answers", passed + failed > before);
    }

    private static void remove(Path folder) throws IOException {
        try (Stream<Path> files = Files.walk(folder)) {
            for (Path file : files.sorted(Comparator.reverseOrder()).toList()) {
                Files.delete(file);
            }
        }
    }

    private static void checkNames(String readme) {
        for (Method method : Thumbreel.class.getDeclaredMethods()) {
            if (Modifier.isPublic(method.getModifiers())) {
                check("the call " + method.getName() + " is named", readme.contains("`" + method.getName() + "`"));
            }
        }
        for (Field field : Thumbreel.class.getDeclaredFields()) {
            if (Modifier.isPublic(field.getModifiers())) {
                check("the constant " + field.getName() + " is named", readme.contains("`" + field.getName() + "`"));
            }
        }
    }

    private static void checkFiles(String readme) throws IOException {
        Matcher named = NAMED_FILE.matcher(readme);
        while (named.find()) {
            check(named.group(1) + " is there", Files.exists(Path.of(named.group(1))));
        }
        try (Stream<Path> tests = Files.list(Path.of("src/test/java"))) {
            for (Path test : tests.toList()) {
                String name = test.getFileName().toString().replace(".java", "");
                check("the test " + name + " is named", readme.contains(name));
            }
        }
    }

    private static void checkCommand(String readme) {
        String tests = readme.substring(Math.max(0, readme.indexOf("## Tests")));
        check("the command for the tests is named", between(tests, "\n    ", "\n").equals(".ci/run"));
        check("the command can be run as it is", Files.isExecutable(Path.of(".ci/run")));
    }

    public static void main(String[] args) throws IOException, ReflectiveOperationException {
        String readme = Files.readString(Path.of("README.md"), StandardCharsets.UTF_8);
        checkExample(readme);
        checkNames(readme);
        checkFiles(readme);
        checkCommand(readme);
        System.out.println(passed + " passed, " + failed + " failed");
        if (failed != 0) {
            System.exit(1);
        }
    }
}
