import java.io.IOException;
import java.net.URL;
import java.net.URLClassLoader;
import java.nio.file.Files;
import java.nio.file.Path;
import java.util.function.BiConsumer;
import java.util.regex.Matcher;
import java.util.regex.Pattern;
import javax.tools.ToolProvider;

/** The lines of Java in README.md are compiled and run: each answers what stands behind it. */
public final class ReadmeTest {
    private static final Path README = Path.of("README.md");
    private static final Pattern BLOCK = Pattern.compile("(?s)```java\n(.*?)```");
    private static final Pattern CALL = Pattern.compile("(?m)^(hall\\.\\w+\\([^;]*\\)); *// (-?\\d+|[A-Z]+_[A-Z]+)");
    private static final Checks CHECKS = new Checks("ReadmeTest");

    private ReadmeTest() {
    }

    public static void main(String[] args) throws IOException, ReflectiveOperationException {
        String lines = linesOfJava();
        int calls = (int) CALL.matcher(lines).results().count();
        CHECKS.isTrue("README.md shows calls with their answers", calls > 20);
        run("public final class ReadmeLines { public static void run("
                + "java.util.function.BiConsumer<String, int[]> answers) {\n" + compared(lines) + "\n} }\n", calls);
        CHECKS.end();
    }

    private static String linesOfJava() throws IOException {
        StringBuilder lines = new StringBuilder();
        BLOCK.matcher(Files.readString(README)).results().forEach(block -> lines.append(block.group(1)));
        return lines.toString();
    }

    /** Each call is handed on with its answer and the one that is due; what else is said of it stays a comment. */
    private static String compared(String lines) {
        return CALL.matcher(lines).replaceAll(call -> Matcher.quoteReplacement("answers.accept(\"" + call.group(1)
                + "\", new int[] {" + call.group(1) + ", " + due(call.group(2)) + "}); // "));
    }

    private static String due(String answer) {
        return Character.isLetter(answer.charAt(0)) ? "VillageHall." + answer : answer;
    }

    private static void run(String program, int calls) throws IOException, ReflectiveOperationException {
        Path folder = Files.createTempDirectory("readme");
        Path file = Files.writeString(folder.resolve("ReadmeLines.java"), program);
        int exit = ToolProvider.getSystemJavaCompiler().run(null, null, null, "-cp",
                System.getProperty("java.class.path"), "-d", folder.toString(), file.toString());
        CHECKS.due("javac of the lines of README.md", exit, 0);
        if (exit != 0) {
            CHECKS.end();
        }
        int askedBefore = CHECKS.asked();
        BiConsumer<String, int[]> answers = (call, pair) -> CHECKS.due(call, pair[0], pair[1]);
        try (URLClassLoader loader = new URLClassLoader(new URL[] {folder.toUri().toURL()})) {
            loader.loadClass("ReadmeLines").getMethod("run", BiConsumer.class).invoke(null, answers);
        }
        CHECKS.due("answers that were compared", CHECKS.asked() - askedBefore, calls);
    }
}
