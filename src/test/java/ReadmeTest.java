import java.io.IOException;
import java.lang.reflect.InvocationTargetException;
import java.net.URL;
import java.net.URLClassLoader;
import java.nio.file.Files;
import java.nio.file.Path;
import java.util.Comparator;
import java.util.List;
import java.util.regex.Matcher;
import java.util.regex.Pattern;
import java.util.stream.Stream;
import javax.tools.ToolProvider;

/** What README.md says holds: its examples answer as they are written, use every call, and every test is named. */
public final class ReadmeTest {
    private static final Pattern EXAMPLE = Pattern.compile("(?ms)^```java\n(.*?)^```$");
    private static final Pattern ANSWERED = Pattern.compile("(?m)^bank\\.(\\w+)(\\(.*\\)); +// (-?\\d+)(?::.*)?$");

    public static void main(String[] args) throws Exception {
        String readme = Files.readString(Path.of("README.md"));
        examples(readme);
        callsAreShown(readme);
        testsAreNamed(readme);
        Check.end();
    }

    private static String code(String readme) {
        StringBuilder all = new StringBuilder();
        Matcher m = EXAMPLE.matcher(readme);
        while (m.find()) {
            all.append(m.group(1));
        }
        return all.toString();
    }

    /** A line "bank.call(..);  // answer: .." becomes a check of its answer; all other lines stay. */
    private static void examples(String readme) throws Exception {
        String code = code(readme);
        Check.due("lines that call", code.lines().filter(line -> line.startsWith("bank.")).count(),
            ANSWERED.matcher(code).results().count());
        String body = ANSWERED.matcher(code).replaceAll("Check.due(\"README: bank.$1\", bank.$1$2, $3L);");
        Path dir = Files.createTempDirectory("readme");
        try {
            Path source = dir.resolve("Example.java");
            Files.writeString(source, "public final class Example { public static void run() {\n" + body + "}}\n");
            run(dir, source);
        } finally {
            remove(dir);
        }
    }

    private static void run(Path dir, Path source) throws Exception {
        String classes = Path.of(Check.class.getProtectionDomain().getCodeSource().getLocation().toURI()).toString();
        int compiled = ToolProvider.getSystemJavaCompiler()
            .run(null, null, null, "-cp", classes, "-d", dir.toString(), source.toString());
        Check.due("README: the examples compile", compiled, 0);
        if (compiled != 0) {
            return;
        }
        try (URLClassLoader loader = new URLClassLoader(new URL[] {dir.toUri().toURL()})) {
            loader.loadClass("Example").getMethod("run").invoke(null);
        } catch (InvocationTargetException e) {
            Check.holds("README: the examples threw " + e.getCause(), false);
        }
    }

    private static void remove(Path dir) throws IOException {
        List<Path> all;
        try (Stream<Path> found = Files.walk(dir)) {
            all = found.sorted(Comparator.reverseOrder()).toList();
        }
        for (Path p : all) {
            Files.delete(p);
        }
    }

    private static void callsAreShown(String readme) {
        String code = code(readme);
        for (java.lang.reflect.Method m : PermitBank.class.getMethods()) {
            if (m.getDeclaringClass() == PermitBank.class) {
                Check.holds("README shows " + m.getName(), code.contains("bank." + m.getName() + "("));
            }
        }
    }

    private static void testsAreNamed(String readme) throws IOException {
        try (Stream<Path> found = Files.list(Path.of("src/test/java"))) {
            for (Path p : found.toList()) {
                String name = p.getFileName().toString().replace(".java", "");
                if (name.endsWith("Test")) {
                    Check.holds("README names " + name, readme.contains("`" + name + "`"));
                }
            }
        }
    }
}
