import java.io.IOException;
import java.nio.charset.StandardCharsets;
import java.nio.file.Files;
import java.nio.file.Path;
import java.util.List;
import java.util.regex.Matcher;
import java.util.regex.Pattern;

/** What can be seen of LANGUAGE.md by reading the program's lines; run from the project's folder. */
public final class LanguageTest {
    private static final Check CHECK = new Check();
    private static final Path PROGRAM = Path.of("src", "main", "java", "WeftHouse.java");
    private static final int MOST_LINES = 60;
    private static final int MOST_PARAMETERS = 7;
    private static final int MOST_CLASSES = 12;

    private static final String[] FORBIDDEN = {
        "\\bpackage\\b", "^import (?!java\\.util\\.(ArrayList|List|Iterator|Arrays|NoSuchElementException);)",
        "^(?!\\s*(case|default)\\b).*->", "::", "\\bfinally\\b", "\\btry\\s*\\(", "\\bsynchronized\\b", "\\bassert\\b",
        "\\bstatic\\s*\\{", "\\bthrow\\s+(?!new\\b)", "\\w+Exact\\b", "\\bSystem\\.(?!arraycopy)", "\\bhashCode\\b",
        "\\bprotected\\b", "\\bextends \\w*Exception\\b", "\"\\s*\\+", "\\+\\s*\"", "[^\\x00-\\x7f]"};

    /** The exceptions of rule 6, of which none above what the machine throws is to be caught. */
    private static final String THROWN = "(IllegalStateException|IllegalArgumentException|IndexOutOfBoundsException"
            + "|ArithmeticException|UnsupportedOperationException|NoSuchElementException|RuntimeException)";
    private static final String CAUGHT = "(IllegalStateException|IllegalArgumentException"
            + "|UnsupportedOperationException|NoSuchElementException)";

    public static void main(String[] arguments) throws IOException {
        List<String> lines = Files.readAllLines(PROGRAM, StandardCharsets.UTF_8);
        int classes = 0;
        for (int at = 0; at < lines.size(); at++) {
            String code = withoutComment(lines.get(at));
            for (String pattern : FORBIDDEN) {
                CHECK.due("line " + (at + 1) + " has " + pattern, Pattern.compile(pattern).matcher(code).find(), false);
            }
            thrown(at, code);
            classes += code.matches(".*\\b(class|record|enum|interface) [A-Z].*") ? 1 : 0;
        }
        CHECK.due("classes enough", classes <= MOST_CLASSES, true);
        methods(lines);
        CHECK.finish();
    }

    private static String withoutComment(String line) {
        String stripped = line.strip();
        if (stripped.startsWith("//") || stripped.startsWith("*") || stripped.startsWith("/*")) {
            return "";
        }
        return line;
    }

    private static void thrown(int at, String code) {
        Matcher matcher = Pattern.compile("\\bthrow\\b.*").matcher(code);
        if (matcher.find()) {
            String statement = matcher.group();
            boolean isAllowed = statement.matches("throw new " + THROWN + "\\((\"[^\"]*\")?\\);.*");
            CHECK.due("line " + (at + 1) + " throws as rule 6 says: " + statement, isAllowed, true);
        }
        Matcher caught = Pattern.compile("\\bcatch\\b.*").matcher(code);
        if (caught.find()) {
            boolean isAllowed = caught.group().matches("catch \\(" + CAUGHT + "( \\| " + CAUGHT + ")* \\w+\\).*");
            CHECK.due("line " + (at + 1) + " catches what code throws", isAllowed, true);
        }
    }

    /** A method begins with a line that ends in an open brace behind a bracket, four or eight deep. */
    private static void methods(List<String> lines) {
        Pattern head = Pattern.compile("^( {4}| {8})(?! |for|if|switch|\\}|return)[^=]*\\(([^()]*)\\).*\\{$");
        int found = 0;
        for (int at = 0; at < lines.size(); at++) {
            Matcher matcher = head.matcher(lines.get(at));
            if (matcher.matches()) {
                found++;
                int end = at;
                while (end < lines.size() && !lines.get(end).equals(matcher.group(1) + "}")) {
                    end++;
                }
                CHECK.due("line " + (at + 1) + " begins a short method", end - at < MOST_LINES, true);
                CHECK.due("line " + (at + 1) + " has few parameters",
                        matcher.group(2).split(",").length <= MOST_PARAMETERS, true);
            }
        }
        CHECK.due("methods were found", found > 0, true);
    }
}
