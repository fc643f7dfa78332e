import java.io.ByteArrayOutputStream;
import java.io.IOException;
import java.io.PrintStream;
import java.lang.reflect.Method;
import java.lang.reflect.Modifier;
import java.net.URL;
import java.net.URLClassLoader;
import java.nio.charset.StandardCharsets;
import java.nio.file.Files;
import java.nio.file.Path;
import java.util.ArrayList;
import java.util.Comparator;
import java.util.List;
import java.util.stream.Stream;
import javax.tools.JavaCompiler;
import javax.tools.ToolProvider;

/** README.md: what it says of the class and of the tests holds. Run at the project's root, as .ci/run does. */
public final class ReadmeTest {
    private static final Path TESTS = Path.of("src/test/java");

    public static void main(String[] args) throws Exception {
        String page = Files.readString(Path.of("README.md"), StandardCharsets.UTF_8);
        theExamplePrintsWhatItSays(page);
        eachCallIsInTheTable(page);
        eachTestIsInTheTable(page);
        Check.finish();
    }

    /** What stands between the first line of three ticks and this word, and the next line of three ticks. */
    private static String block(String page, String word) {
        String begin = "```" + word + "\n";
        int from = page.indexOf(begin);
        int to = from < 0 ? -1 : page.indexOf("```", from + begin.length());
        Check.due("a block of " + word + " is there", to >= 0);
        return to < 0 ? "" : page.substring(from + begin.length(), to);
    }

    private static void theExamplePrintsWhatItSays(String page) throws Exception {
        Path work = Files.createTempDirectory("readme");
        try {
            Path source = work.resolve("Example.java");
            Files.writeString(source, block(page, "java"));
            JavaCompiler javac = ToolProvider.getSystemJavaCompiler();
            int wrong = javac.run(null, null, null, "-cp", System.getProperty("java.class.path"),
                    "-d", work.toString(), source.toString());
            Check.due("the example compiles", wrong == 0);
            List<String> got = wrong == 0 ? printed(work) : List.of();
            List<String> due = block(page, "text").lines().toList();
            Check.due("lines printed", got.size(), due.size());
            for (int i = 0; i < got.size() && i < due.size(); i++) {
                Check.due("the example prints '" + got.get(i) + "', the page says '" + due.get(i) + "'",
                        got.get(i).equals(due.get(i)));
            }
        } finally {
            remove(work);
        }
    }

    private static List<String> printed(Path work) throws Exception {
        ByteArrayOutputStream bytes = new ByteArrayOutputStream();
        PrintStream screen = System.out;
        try (URLClassLoader loader = new URLClassLoader(new URL[] {work.toUri().toURL()});
                PrintStream stream = new PrintStream(bytes, true, StandardCharsets.UTF_8)) {
            Method main = loader.loadClass("Example").getMethod("main", String[].class);
            System.setOut(stream);
            main.invoke(null, (Object) new String[0]);
        } finally {
            System.setOut(screen);
        }
        return bytes.toString(StandardCharsets.UTF_8).lines().toList();
    }

    private static void remove(Path work) throws IOException {
        List<Path> all = new ArrayList<>();
        try (Stream<Path> walk = Files.walk(work)) {
            walk.sorted(Comparator.reverseOrder()).forEach(all::add);
        }
        for (Path p : all) {
            Files.delete(p);
        }
    }

    /** A row of the table begins with the call and as many names as it has parameters. */
    private static void eachCallIsInTheTable(String page) {
        int calls = 0;
        for (Method m : ArmPendant.class.getDeclaredMethods()) {
            if (!Modifier.isPublic(m.getModifiers())) {
                continue;
            }
            calls++;
            String begin = "\n| `" + m.getName() + "(";
            int from = page.indexOf(begin);
            int to = from < 0 ? -1 : page.indexOf(")` |", from);
            Check.due(m.getName() + " is in the table", to >= 0);
            if (to >= 0) {
                String names = page.substring(from + begin.length(), to);
                Check.due("names in the row of " + m.getName(), names.isEmpty() ? 0 : names.split(", ").length,
                        m.getParameterCount());
            }
        }
        Check.due("rows of calls", page.split("\n\\| `\\w+\\(", -1).length - 1, calls);
    }

    private static void eachTestIsInTheTable(String page) throws IOException {
        int tests = 0;
        try (Stream<Path> files = Files.list(TESTS)) {
            for (Path p : files.toList()) {
                String name = p.getFileName().toString().replace(".java", "");
                if (name.endsWith("Test")) {
                    tests++;
                    Check.due(name + " is in the table", page.contains("\n| `" + name + "` |"));
                }
            }
        }
        Check.due("rows of tests", page.split("\n\\| `\\w+Test` \\|", -1).length - 1, tests);
    }
}
