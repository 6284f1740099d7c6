import java.nio.file.Files;
import java.nio.file.Path;
import java.util.regex.Matcher;
import java.util.regex.Pattern;

/** The rules of LANGUAGE.md that can be seen in the words of the source. */
final class LanguageTest {
    private static final String THROWABLE = "IllegalStateException|IllegalArgumentException|IndexOutOfBoundsException"
        + "|ArithmeticException|UnsupportedOperationException|NoSuchElementException|RuntimeException";
    private static final String[] FORBIDDEN = {
        "^package ", "^import (?!java\\.util\\.(Arrays|NoSuchElementException);)", "\\b(try|catch|finally)\\b",
        "\\b(synchronized|assert|volatile|native|transient|var)\\b", "->", "::", "Exact\\(", "static \\{", "\\brecord\\b",
        "\\b(System|Thread|Random|Object|Class)\\b", "\\b(equals|hashCode|toString)\\(", "\"\\s*\\+", "\\+\\s*\"",
        "throw (?!new (" + THROWABLE + ")\\((\"[^\"]*\")?\\);)", "\\bstatic (?!final)(int|long|boolean|char|String)\\w* \\w+( =|;)",
        "\\b(protected|public (?!final class SwathSurvey|SwathSurvey\\(|(int|long|float|double|char|boolean) \\w+\\())"};
    private static final int MOST_CLASSES = 12;
    private static final int LONGEST_METHOD = 60;

    private LanguageTest() {
    }

    public static void main(String[] args) throws Exception {
        String source = Files.readString(Path.of(args[1], "src/main/java/SwathSurvey.java"));
        String code = source.replaceAll("(?s)/\\*.*?\\*/", "").replaceAll("//.*", "");
        for (String rule : FORBIDDEN) {
            Matcher found = Pattern.compile(rule, Pattern.MULTILINE).matcher(code);
            while (found.find()) {
                Checks.wrong("forbidden: " + lineAround(code, found.start()));
            }
        }
        checkLengths(code);
        Checks.end("LanguageTest");
    }

    private static String lineAround(String code, int place) {
        int end = code.indexOf('\n', place);
        return code.substring(code.lastIndexOf('\n', place) + 1, end < 0 ? code.length() : end).trim();
    }

    private static void checkLengths(String code) {
        int classes = 0;
        int opened = 0;
        String[] lines = code.split("\n");
        for (int number = 0; number < lines.length; number++) {
            String line = lines[number];
            classes += line.matches(".*\\b(class|interface|enum) \\w+ .*\\{") ? 1 : 0;
            if (line.matches("( {4}| {8})\\S.*\\{")) {
                opened = number;
            } else if (line.matches("( {4}| {8})\\}") && number - opened > LONGEST_METHOD) {
                Checks.wrong("too long: " + lines[opened].trim());
            }
        }
        if (classes > MOST_CLASSES) {
            Checks.wrong("there are " + classes + " classes");
        }
    }
}
