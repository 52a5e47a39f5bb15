import java.io.IOException;
import java.net.URL;
import java.net.URLClassLoader;
import java.nio.file.Files;
import java.nio.file.Path;
import java.util.ArrayList;
import java.util.Comparator;
import java.util.List;
import java.util.regex.Matcher;
import java.util.regex.Pattern;
import java.util.stream.Stream;
import javax.tools.ToolProvider;

/** The example of README.md is compiled and run: each of its calls must answer, or throw, what stands behind it. */
public final class UnitKitchensReadmeTest {
    private static final Pattern CALL =
            Pattern.compile("(film\\.\\w+\\(.*\\));\\s*// (throws \\w+|-?\\d+(?:\\.\\d+)?)(?:: .*)?");

    private static int calls = 0;
    private static int wrong = 0;

    /** A call of the example. */
    public interface Call {
        Object answer();
    }

    public static void main(String[] args) throws Exception {
        run(program(example(Files.readAllLines(Path.of("README.md")))));
        if (calls == 0) {
            fail("README.md shows no call with its answer");
        }
        System.out.println(wrong == 0 ? calls + " calls answer as README.md says" : wrong + " faults in README.md");
        if (wrong != 0) {
            System.exit(1);
        }
    }

    private static void fail(String what) {
        wrong++;
        System.out.println(what);
    }

    /** Called by the program that is made of the example. */
    public static void due(String told, String due, Call call) {
        calls++;
        String got;
        try {
            got = String.valueOf(call.answer());
        } catch (RuntimeException e) {
            got = "throws " + e.getClass().getSimpleName();
        }
        if (!got.equals(due)) {
            fail(told + ": " + got + ", README.md says " + due);
        }
    }

    private static List<String> example(List<String> lines) {
        List<String> block = new ArrayList<>();
        boolean inside = false;
        for (String line : lines) {
            if (inside && !line.startsWith("```")) {
                block.add(line);
            }
            inside = inside ? !line.startsWith("```") : line.equals("```java");
        }
        return block;
    }

    /** A call must tell its answer, so that none is shown that is not looked at; other lines stand as they are. */
    private static String program(List<String> block) {
        StringBuilder text = new StringBuilder("public final class Example { public static void run() {\n");
        for (String line : block) {
            Matcher call = CALL.matcher(line);
            if (call.matches()) {
                text.append("UnitKitchensReadmeTest.due(\"").append(call.group(1)).append("\", \"")
                        .append(call.group(2)).append("\", () -> ").append(call.group(1)).append(");\n");
            } else {
                if (line.startsWith("film.")) {
                    fail("README.md does not say what this answers: " + line);
                }
                text.append(line).append('\n');
            }
        }
        return text.append("} }\n").toString();
    }

    private static void run(String program) throws Exception {
        Path directory = Files.createTempDirectory("readme");
        try {
            Path file = directory.resolve("Example.java");
            Files.writeString(file, program);
            int status = ToolProvider.getSystemJavaCompiler().run(null, null, null, "-cp",
                    System.getProperty("java.class.path"), "-d", directory.toString(), file.toString());
            if (status != 0) {
                fail("the example of README.md does not compile");
                return;
            }
            try (URLClassLoader loader = new URLClassLoader(new URL[] {directory.toUri().toURL()})) {
                loader.loadClass("Example").getMethod("run").invoke(null);
            }
        } finally {
            remove(directory);
        }
    }

    private static void remove(Path directory) throws IOException {
        try (Stream<Path> files = Files.walk(directory)) {
            for (Path file : files.sorted(Comparator.reverseOrder()).toList()) {
                Files.delete(file);
            }
        }
    }
}
