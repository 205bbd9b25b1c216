import java.io.IOException;
import java.lang.reflect.Method;
import java.lang.reflect.Modifier;
import java.net.URL;
import java.net.URLClassLoader;
import java.nio.file.Files;
import java.nio.file.Path;
import java.util.ArrayList;
import java.util.List;
import java.util.Set;
import java.util.TreeSet;
import java.util.regex.Matcher;
import java.util.regex.Pattern;
import java.util.stream.Stream;
import javax.tools.ToolProvider;

/** README.md: its example gives the answers that it names, and it names each method and each test. */
public final class ReadmeTest extends Check {
    private static final Path README = Path.of("README.md");
    private static final Path TESTS = Path.of("src/test/java");

    // "int shop = ledger.open(5);  // 1": what is done with the answer, the call, and the answer or the throw
    private static final Pattern NAMES_AN_ANSWER =
            Pattern.compile("(int \\w+ = )?(ledger\\..*\\)); +// (-?\\d+|NONE|throws \\w+)(:.*)?");

    public static void main(String[] args) throws Exception {
        List<String> lines = Files.readAllLines(README);
        exampleAnswers(lines);
        namesEachMethod(String.join("\n", lines));
        namesEachTest(lines);
        finish();
    }

    private static void exampleAnswers(List<String> lines) throws Exception {
        sentence("README.md, An example");
        List<String> body = new ArrayList<>();
        List<String> calls = new ArrayList<>();
        List<String> named = new ArrayList<>();
        for (String line : example(lines)) {
            Matcher call = NAMES_AN_ANSWER.matcher(line);
            if (call.matches()) {
                calls.add(call.group(2));
                named.add(call.group(3));
                body.add(telling(call.group(1), call.group(2), call.group(3)));
            } else {
                boolean mustName = line.contains("ledger.") && !line.startsWith("for ");
                due("calls without an answer in: " + line, mustName ? 1 : 0, 0);
                body.add(line);
            }
        }
        due("has calls with answers", named.isEmpty() ? 0 : 1, 1);
        List<String> told = run(body);
        due("answers", told.size(), named.size());
        for (int i = 0; i < told.size(); i++) {
            due(calls.get(i), told.get(i), named.get(i).replace("NONE", "" + CallLedger.NONE));
        }
    }

    /** The lines of the page's only block of Java. */
    private static List<String> example(List<String> lines) {
        int first = lines.indexOf("```java") + 1;
        due("blocks of Java", lines.stream().filter("```java"::equals).count(), 1);
        List<String> behind = lines.subList(first, lines.size());
        return behind.subList(0, Math.max(behind.indexOf("```"), 0));
    }

    /** The same call in a line that also tells its answer, or what it throws. */
    private static String telling(String before, String call, String named) {
        if (named.startsWith("throws ")) {
            return "try { told.add(\"\" + " + call + "); } catch (RuntimeException thrown) {"
                    + " told.add(\"throws \" + thrown.getClass().getSimpleName()); }";
        }
        return (before == null ? "" : before) + "tell(told, " + call + ");";
    }

    /** Compiles the lines as they stand, runs them, and answers what they told. */
    private static List<String> run(List<String> body) throws Exception {
        Path place = Files.createTempDirectory("readme");
        Path source = place.resolve("Example.java");
        List<String> told = new ArrayList<>();
        try {
            Files.writeString(source, "public class Example {\n"
                    + "static int tell(java.util.List<String> told, int answer) {"
                    + " told.add(\"\" + answer); return answer; }\n"
                    + "public static void run(java.util.List<String> told) {\n"
                    + String.join("\n", body) + "\n}\n}\n");
            int failed = ToolProvider.getSystemJavaCompiler().run(null, null, null,
                    "-cp", System.getProperty("java.class.path"), "-d", place.toString(), source.toString());
            due("compiling it", failed, 0);
            if (failed == 0) {
                try (URLClassLoader loader = new URLClassLoader(new URL[] {place.toUri().toURL()})) {
                    loader.loadClass("Example").getMethod("run", List.class).invoke(null, told);
                }
            }
        } finally {
            remove(place);
        }
        return told;
    }

    private static void remove(Path place) throws IOException {
        try (Stream<Path> files = Files.list(place)) {
            for (Path file : files.toList()) {
                Files.delete(file);
            }
        }
        Files.delete(place);
    }

    private static void namesEachMethod(String page) {
        sentence("README.md, Use");
        for (Method method : CallLedger.class.getDeclaredMethods()) {
            if (Modifier.isPublic(method.getModifiers())) {
                due("names " + method.getName(), page.contains("| `" + method.getName() + "(") ? 1 : 0, 1);
            }
        }
    }

    private static void namesEachTest(List<String> lines) throws IOException {
        sentence("README.md, Tests");
        Set<String> named = new TreeSet<>();
        Matcher names = Pattern.compile("(?m)^- `(\\w+Test)`").matcher(String.join("\n", lines));
        while (names.find()) {
            named.add(names.group(1));
        }
        Set<String> here = new TreeSet<>();
        try (Stream<Path> files = Files.list(TESTS)) {
            for (Path file : files.toList()) {
                String name = file.getFileName().toString();
                if (name.endsWith("Test.java")) {
                    here.add(name.replace(".java", ""));
                }
            }
        }
        due("names of tests", named.toString(), here.toString());
    }
}
