import java.io.IOException;
import java.nio.file.Files;
import java.nio.file.Path;
import java.util.regex.Matcher;
import java.util.regex.Pattern;

/** The rules of LANGUAGE.md that can be read off the text of the program. */
public final class LanguageTest {
    private static final Path PROGRAM = Path.of("src", "main", "java", "VillageHall.java");
    private static final String[] NOT_ALLOWED = {"\\bimport\\b", "\\bpackage\\b", "\\bthrows?\\b", "\\btry\\b",
        "\\bcatch\\b", "\\bfinally\\b", "\\bsynchronized\\b", "\\bassert\\b", "->", "::", "Exact\\s*\\(",
        "\\bSystem\\.(?!arraycopy\\b)", "\\bMath\\.random\\b", "\\bThread\\b", "\\bObject\\b", "\\bprotected\\b",
        "\\bfloat\\b", "\\bdouble\\b", "\\bhashCode\\b", "\\btoString\\b", "\\bequals\\b",
        "\\bstatic (?!final\\b|int\\b|boolean\\b|void\\b|long\\b)", "\\bstatic\\s*\\{"};

    public static void main(String[] args) throws IOException {
        Checks checks = new Checks("LanguageTest");
        String program = Files.readString(PROGRAM);
        String code = program.replaceAll("(?s)/\\*.*?\\*/", "").replaceAll("//[^\n]*", "");
        for (String pattern : NOT_ALLOWED) {
            Matcher found = Pattern.compile(pattern).matcher(code);
            checks.isTrue("nothing like " + pattern + " in the program", !found.find());
        }
        Matcher classes = Pattern.compile("\\b(class|interface|enum|record) [A-Z]").matcher(code);
        checks.isTrue("at most 12 classes", classes.results().count() <= 12);
        checkLengths(checks, program);
        checkLines(checks, program);
        checks.end();
    }

    /** A method begins and ends on lines of its own at the indent of its class's members. */
    private static void checkLengths(Checks checks, String program) {
        Pattern method = Pattern.compile("(?m)^( {4}| {8})(?!private static final class)\\S[^;=\n]*\\([^;]*?\\) \\{\n"
                + "(?s:.*?)^\\1\\}$");
        Matcher found = method.matcher(program);
        int methods = 0;
        while (found.find()) {
            methods++;
            String head = found.group().lines().findFirst().orElse("").strip();
            checks.isTrue(head + " is short", found.group().lines().count() <= 60);
            String parameters = head.substring(head.indexOf('('));
            checks.isTrue(head + " takes at most seven parameters", parameters.split(",").length <= 7);
        }
        checks.isTrue("methods were found", methods > 80);
    }

    private static void checkLines(Checks checks, String program) {
        int number = 0;
        for (String line : program.split("\n")) {
            number++;
            checks.isTrue("line " + number + " is not too long", line.length() <= 120);
            checks.isTrue("line " + number + " holds plain signs", line.chars().allMatch(c -> c >= 32 && c < 127));
        }
    }
}
