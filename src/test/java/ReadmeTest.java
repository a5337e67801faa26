import java.io.IOException;
import java.lang.reflect.Field;
import java.lang.reflect.Modifier;
import java.net.URL;
import java.net.URLClassLoader;
import java.nio.file.Files;
import java.nio.file.Path;
import java.util.ArrayList;
import java.util.HashSet;
import java.util.List;
import java.util.Set;
import java.util.function.Consumer;
import java.util.regex.Matcher;
import java.util.regex.Pattern;
import javax.tools.JavaCompiler;
import javax.tools.ToolProvider;

/** README.md's examples are compiled and run as they stand there, and its tables name the whole face. */
public final class ReadmeTest {
    private static final Due DUE = new Due("ReadmeTest");
    private static final Pattern ANSWERED = Pattern.compile("\\s*((\\w+)\\.(\\w+)\\(.*\\)); +// (-?\\w+)(: .*)?");
    private static final Pattern ASKED = Pattern.compile("\\b[xy]\\.\\w+\\(");
    private static final Pattern FACE_LINE = Pattern.compile("    public (?:int|long) (\\w+)\\((.*)\\);");

    private final List<String> lines = Files.readAllLines(Path.of("README.md"));
    private final Set<String> called = new HashSet<>();

    private ReadmeTest() throws IOException {
    }

    public static void main(String[] args) throws Exception {
        ReadmeTest test = new ReadmeTest();
        String program = test.program();
        test.run(program);
        test.partsOfAText();
        test.tables();
        DUE.end();
    }

    /** All examples in one method: each call with an answer hands its line, what it got, what is due. */
    private String program() {
        StringBuilder program = new StringBuilder("public final class ReadmeExamples {\n");
        program.append("public static void run(java.util.function.Consumer<long[]> seen) {\n");
        boolean inside = false;
        for (int line = 0; line < lines.size(); line++) {
            if (lines.get(line).startsWith("```")) {
                inside = lines.get(line).equals("```java");
            } else if (inside) {
                program.append(statement(line)).append('\n');
            }
        }
        return program.append("}\n}\n").toString();
    }

    private String statement(int line) {
        Matcher matcher = ANSWERED.matcher(lines.get(line));
        if (!matcher.matches()) {
            DUE.is("calls without an answer in line " + named(line), ASKED.matcher(lines.get(line)).find() ? 1 : 0, 0);
            return lines.get(line);
        }
        called.add(matcher.group(3));
        String want = matcher.group(4).matches("[A-Z]+") ? "CheeseValleys." + matcher.group(4) : matcher.group(4);
        return "seen.accept(new long[] {" + line + ", " + matcher.group(1) + ", " + want + "});";
    }

    private String named(int line) {
        return line + 1 + ", " + lines.get(line).trim();
    }

    private void run(String program) throws Exception {
        Path directory = Files.createTempDirectory("readme");
        Path source = directory.resolve("ReadmeExamples.java");
        Path compiled = directory.resolve("ReadmeExamples.class");
        try {
            Files.writeString(source, program);
            compile(source);
            List<long[]> seen = new ArrayList<>();
            answers(directory, seen::add);
            for (long[] one : seen) {
                DUE.is("line " + named((int) one[0]), one[1], one[2]);
            }
            DUE.is("examples that were run", seen.isEmpty() ? 0 : 1, 1);
        } finally {
            Files.deleteIfExists(source);
            Files.deleteIfExists(compiled);
            Files.deleteIfExists(directory);
        }
    }

    private static void compile(Path source) {
        JavaCompiler compiler = ToolProvider.getSystemJavaCompiler();
        if (compiler == null) {
            throw new IllegalStateException("this java has no compiler");
        }
        String classes = System.getProperty("java.class.path");
        int failed = compiler.run(null, null, null, "--release", "17", "-cp", classes, source.toString());
        if (failed != 0) {
            throw new IllegalStateException("the examples do not compile");
        }
    }

    private static void answers(Path directory, Consumer<long[]> seen) throws Exception {
        try (URLClassLoader loader = new URLClassLoader(new URL[] {directory.toUri().toURL()})) {
            loader.loadClass("ReadmeExamples").getMethod("run", Consumer.class).invoke(null, seen);
        }
    }

    /** The parts that the first table shows are a text of one pass, the beginning of the one that is told. */
    private void partsOfAText() {
        StringBuilder text = new StringBuilder();
        for (String line : lines) {
            Matcher matcher = Pattern.compile("\\| `([v;,][a-z0-9]+)` \\|.*").matcher(line);
            text.append(matcher.matches() ? matcher.group(1) : "");
        }
        DUE.is("land by " + text, Due.landBy(new CheeseValleys(), text.toString()), 1);
        DUE.is("lines that tell " + text, lines.stream().filter(l -> l.contains('"' + text.toString())).count(), 1);
    }

    private void tables() throws IOException, IllegalAccessException {
        for (Field field : CheeseValleys.class.getDeclaredFields()) {
            if (Modifier.isPublic(field.getModifiers())) {
                row("| `" + field.getName() + "` | " + field.get(null) + " |");
            }
        }
        int calls = 0;
        for (String line : Files.readAllLines(Path.of("../shared/DOC.md"))) {
            Matcher matcher = FACE_LINE.matcher(line);
            if (matcher.matches()) {
                calls++;
                row("| `" + matcher.group(1) + "(" + matcher.group(2).replaceAll("\\w+ (\\w+)", "$1") + ")` |");
                DUE.is("examples of " + matcher.group(1), called.contains(matcher.group(1)) ? 1 : 0, 1);
            }
        }
        DUE.is("calls of the face", calls, 30);
    }

    private void row(String beginning) {
        DUE.is("rows that begin with " + beginning, lines.stream().filter(l -> l.startsWith(beginning)).count(), 1);
    }
}
