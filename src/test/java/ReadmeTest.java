import java.io.IOException;
import java.lang.reflect.InvocationTargetException;
import java.net.URL;
import java.net.URLClassLoader;
import java.nio.file.Files;
import java.nio.file.Path;
import java.util.List;
import java.util.function.BiConsumer;
import javax.tools.ToolProvider;

/**
 * The examples of README.md, compiled and run as they stand there. A comment that begins with "=" says what the call
 * before it answers.
 */
public final class ReadmeTest {
    private static final String ANSWERS = "// = ";

    public static void main(String[] args) throws IOException, ReflectiveOperationException {
        List<String> lines = Files.readAllLines(Path.of("README.md"));
        Check.due("whether README.md tells answers", true, () -> lines.stream().anyMatch(ReadmeTest::tellsAnswer));
        Path made = Files.createTempDirectory("readme");
        Path source = made.resolve("Examples.java");
        Files.writeString(source, programOf(lines));
        Check.due("how the compiler ends with the examples", 0, () -> compile(made, source));
        if (Check.wrongSoFar() == 0) {
            run(made, lines);
        }
        deleteAll(made);
        Check.end();
    }

    private static boolean tellsAnswer(String line) {
        return line.contains(ANSWERS);
    }

    private static String wantOf(String line) {
        return line.substring(line.indexOf(ANSWERS) + ANSWERS.length()).replaceFirst(":.*", "").trim();
    }

    private static String callOf(String line) {
        return line.substring(0, line.indexOf(ANSWERS)).trim().replaceFirst(";$", "");
    }

    private static String programOf(List<String> lines) {
        StringBuilder text = new StringBuilder("public final class Examples {\n"
                + "public static void run(java.util.function.BiConsumer<Integer, Object> told) {\n");
        boolean inside = false;
        for (int at = 0; at < lines.size(); at++) {
            String line = lines.get(at);
            if (line.startsWith("```")) {
                boolean begins = line.equals("```java");
                text.append(begins ? "{\n" : inside ? "}\n" : "");
                inside = begins;
            } else if (inside) {
                text.append(tellsAnswer(line) ? "told.accept(" + at + ", " + callOf(line) + ");" : line).append('\n');
            }
        }
        return text.append("}\n}\n").toString();
    }

    private static int compile(Path made, Path source) {
        return ToolProvider.getSystemJavaCompiler().run(null, null, null,
                "-cp", System.getProperty("java.class.path"), "-d", made.toString(), source.toString());
    }

    private static void run(Path made, List<String> lines) throws IOException, ReflectiveOperationException {
        BiConsumer<Integer, Object> told = (at, got) -> {
            String line = lines.get(at);
            Check.due("README.md, line " + (at + 1) + ", " + callOf(line), wantOf(line), () -> got);
        };
        try (URLClassLoader loader = new URLClassLoader(new URL[] {made.toUri().toURL()})) {
            loader.loadClass("Examples").getMethod("run", BiConsumer.class).invoke(null, told);
        } catch (InvocationTargetException e) {
            Check.due("an example of README.md", "no exception", e::getCause);
        }
    }

    private static void deleteAll(Path made) throws IOException {
        for (String name : List.of("Examples.java", "Examples.class")) {
            Files.deleteIfExists(made.resolve(name));
        }
        Files.delete(made);
    }
}
