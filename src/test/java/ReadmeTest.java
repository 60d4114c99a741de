import java.io.IOException;
import java.lang.reflect.InvocationTargetException;
import java.lang.reflect.Method;
import java.lang.reflect.Modifier;
import java.net.URL;
import java.net.URLClassLoader;
import java.nio.file.Files;
import java.nio.file.Path;
import java.util.ArrayList;
import java.util.Comparator;
import java.util.HashSet;
import java.util.List;
import java.util.Set;
import java.util.regex.Matcher;
import java.util.regex.Pattern;
import java.util.stream.Collectors;
import java.util.stream.Stream;

/**
 * Compiles the calls that README.md shows, as they stand there, and compares what each answers with the
 * number behind it. The page must also call each method and name each test.
 */
public final class ReadmeTest {
    private static final Path PAGE = Path.of("README.md");
    private static final Path TESTS = Path.of("src/test/java");
    private static final Pattern BLOCK = Pattern.compile("(?s)```java\n(.*?)```");
    private static final Pattern MADE = Pattern.compile("(?:int|long) (\\w+) = post\\.(\\w+)\\(.*\\); +// (-?\\d+)(:.*)?");
    private static final Pattern CALLED = Pattern.compile("(post\\.(\\w+)\\(.*\\)); +// (-?\\d+)(:.*)?");
    private static final String CLASS = "CallsOfThePage";

    private static int wrong = 0;
    private static int judged = 0;

    private ReadmeTest() {
    }

    /** What the page's code calls for each answer that it tells. */
    public static void due(String call, long got, long want) {
        judged++;
        if (got != want) {
            fail(call + " answered " + got + ", the page says " + want);
        }
    }

    public static void main(String[] args) throws Exception {
        String page = Files.readString(PAGE);
        Set<String> called = new HashSet<>();
        String program = programOf(page, called);
        run(program);
        for (Method m : ThunderIsThePost.class.getDeclaredMethods()) {
            if (Modifier.isPublic(m.getModifiers()) && !called.contains(m.getName())) {
                fail("no call of " + m.getName() + " with its answer");
            }
        }
        namesAllTests(page);
        System.out.println(wrong == 0 ? "README.md: " + judged + " calls answer as it says" : "README.md: " + wrong + " faults");
        if (wrong != 0) {
            System.exit(1);
        }
    }

    private static void fail(String what) {
        wrong++;
        System.out.println(what);
    }

    /** A class that does what the page shows and hands each answer to due(). */
    private static String programOf(String page, Set<String> called) {
        StringBuilder program = new StringBuilder();
        program.append("public final class " + CLASS + " {\n    public static void run() {\n");
        Matcher block = BLOCK.matcher(page);
        while (block.find()) {
            for (String line : block.group(1).split("\n")) {
                program.append(judgedLine(line, called)).append('\n');
            }
        }
        return program.append("    }\n}\n").toString();
    }

    private static String judgedLine(String line, Set<String> called) {
        Matcher made = MADE.matcher(line);
        if (made.matches()) {
            called.add(made.group(2));
            return line.substring(0, line.indexOf("//")) + dueOf(made.group(1), made.group(1), made.group(3));
        }
        Matcher calls = CALLED.matcher(line);
        if (calls.matches()) {
            called.add(calls.group(2));
            return dueOf(calls.group(1), calls.group(1), calls.group(3));
        }
        // Only the steps of a loop need no answer of their own.
        if (line.startsWith("post.") || line.contains("//")) {
            fail("a call without its answer: " + line);
        }
        return line;
    }

    private static String dueOf(String said, String value, String answer) {
        return "ReadmeTest.due(\"" + said.replace("\"", "\\\"") + "\", " + value + ", " + answer + "L);";
    }

    private static void run(String program) throws Exception {
        Path directory = Files.createTempDirectory("readme");
        try {
            Path file = directory.resolve(CLASS + ".java");
            Files.writeString(file, program);
            String path = System.getProperty("java.class.path");
            Process javac = new ProcessBuilder("javac", "-cp", path, "-d", directory.toString(), file.toString())
                .inheritIO().start();
            if (javac.waitFor() != 0) {
                fail("the calls of the page don't compile");
                return;
            }
            try (URLClassLoader loader = new URLClassLoader(new URL[] {directory.toUri().toURL()})) {
                loader.loadClass(CLASS).getMethod("run").invoke(null);
            } catch (InvocationTargetException e) {
                fail("the calls of the page threw " + e.getCause());
            }
        } finally {
            remove(directory);
        }
    }

    private static void remove(Path directory) throws IOException {
        List<Path> all = new ArrayList<>();
        try (Stream<Path> files = Files.walk(directory)) {
            files.sorted(Comparator.reverseOrder()).forEach(all::add);
        }
        for (Path file : all) {
            Files.delete(file);
        }
    }

    private static void namesAllTests(String page) throws IOException {
        List<String> names;
        try (Stream<Path> files = Files.list(TESTS)) {
            names = files.map(file -> file.getFileName().toString().replace(".java", "")).collect(Collectors.toList());
        }
        for (String name : names) {
            if (!page.contains("`" + name + "`")) {
                fail("the page doesn't name " + name);
            }
        }
    }
}
