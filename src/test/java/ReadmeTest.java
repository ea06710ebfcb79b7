import java.io.IOException;
import java.net.URL;
import java.net.URLClassLoader;
import java.nio.file.Files;
import java.nio.file.Path;
import java.util.List;
import java.util.regex.Matcher;
import java.util.regex.Pattern;
import javax.tools.JavaCompiler;
import javax.tools.ToolProvider;

/** The examples of README.md answer as their comments say. They are compiled as they stand, each on its own. */
public final class ReadmeTest {
    private static final String BEGIN = "```java";
    private static final String END = "```";
    private static final Pattern CALL = Pattern.compile("(?:int (\\w+) = )?(book\\.\\w+\\(.*\\)); +// (.*)");
    private static final Pattern ANSWER = Pattern.compile("(-?\\d+|NONE)(?:: .*)?");
    private static final Pattern THROWS = Pattern.compile("throws (\\w+)(?:: .*)?");
    private static final List<String> WITHOUT_ANSWER =
            List.of("Leavebank book = new Leavebank\\(\\);", "book\\.cancel\\(\\w+\\);");

    private static int answers = 0;
    private static int wrong = 0;

    public static void main(String[] args) throws IOException, ReflectiveOperationException {
        List<String> readme = Files.readAllLines(Path.of("README.md"));
        run(sourceOf(readme));
        if (wrong > 0 || answers == 0) {
            System.out.println(wrong + " wrong of " + answers + " answers in the examples");
            System.exit(1);
        }
    }

    // ---- called by the compiled examples

    public static void due(int line, int got, int want) {
        answers++;
        if (got != want) {
            complain(line, "answers " + got + ", not " + want);
        }
    }

    public static void dueThrow(int line, Class<?> got, Class<?> want) {
        answers++;
        if (got != want) {
            complain(line, got == null ? "throws nothing" : "throws " + got.getSimpleName());
        }
    }

    private static void complain(int line, String what) {
        wrong++;
        System.out.println("README.md, line " + line + ": " + what);
    }

    // ---- what the examples are made into

    private static String sourceOf(List<String> readme) {
        StringBuilder source = new StringBuilder("public final class Examples {\n");
        source.append("static final int NONE = Leavebank.NONE;\n");
        source.append("public static void run() {\n");
        boolean isExample = false;
        for (int i = 0; i < readme.size(); i++) {
            String line = readme.get(i);
            if (line.equals(BEGIN)) {
                isExample = true;
                source.append("{\n");
            } else if (isExample && line.equals(END)) {
                isExample = false;
                source.append("}\n");
            } else if (isExample) {
                source.append(statement(i + 1, line)).append('\n');
            }
        }
        return source.append("}\n}\n").toString();
    }

    /** Each line says what it answers or throws, but those that answer nothing. */
    private static String statement(int number, String line) {
        Matcher call = CALL.matcher(line);
        if (call.matches()) {
            Matcher answer = ANSWER.matcher(call.group(3));
            Matcher exception = THROWS.matcher(call.group(3));
            if (answer.matches()) {
                return answering(number, call.group(1), call.group(2), answer.group(1));
            }
            if (exception.matches()) {
                return throwing(number, call.group(2), exception.group(1));
            }
        }
        if (WITHOUT_ANSWER.stream().noneMatch(line::matches)) {
            complain(number, "is no call with what it answers or throws");
        }
        return line;
    }

    private static String answering(int number, String name, String call, String want) {
        if (name == null) {
            return "ReadmeTest.due(" + number + ", " + call + ", " + want + ");";
        }
        return "int " + name + " = " + call + "; ReadmeTest.due(" + number + ", " + name + ", " + want + ");";
    }

    private static String throwing(int number, String call, String want) {
        return "{ Class<?> thrown = null; try { " + call + "; } catch (RuntimeException e) { thrown = e.getClass(); }"
                + " ReadmeTest.dueThrow(" + number + ", thrown, " + want + ".class); }";
    }

    private static void run(String source) throws IOException, ReflectiveOperationException {
        Path directory = Files.createTempDirectory("readme");
        Path file = directory.resolve("Examples.java");
        Path compiled = directory.resolve("Examples.class");
        try {
            Files.writeString(file, source);
            compile(file, directory);
            try (URLClassLoader loader = new URLClassLoader(new URL[] {directory.toUri().toURL()})) {
                loader.loadClass("Examples").getMethod("run").invoke(null);
            }
        } finally {
            Files.deleteIfExists(compiled);
            Files.deleteIfExists(file);
            Files.deleteIfExists(directory);
        }
    }

    private static void compile(Path file, Path to) {
        JavaCompiler compiler = ToolProvider.getSystemJavaCompiler();
        if (compiler == null) {
            throw new IllegalStateException("this java has no compiler");
        }
        int result = compiler.run(null, null, null, "--release", "17", "-cp", System.getProperty("java.class.path"),
                "-d", to.toString(), file.toString());
        if (result != 0) {
            throw new IllegalStateException("the examples of README.md can't be compiled");
        }
    }
}
