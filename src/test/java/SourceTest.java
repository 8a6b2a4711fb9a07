import java.io.IOException;
import java.nio.file.Files;
import java.nio.file.Path;
import java.util.List;
import java.util.regex.Matcher;
import java.util.regex.Pattern;

/** What of ../shared/LANGUAGE.md can be told from the text of the class. It runs in the project's folder. */
public final class SourceTest {
    private static final Path SOURCE = Path.of("src/main/java/Figurehouse.java");
    private static final String[] RULED_OUT = {
        "->", "::", "\\bcatch\\b", "\\btry\\b", "\\bfinally\\b", "\\bsynchronized\\b", "\\bassert\\b", "\\bpackage\\b",
        "\\bstatic\\s*\\{", "\\bThread\\b", "\\bSystem\\.(?!arraycopy)", "\\bRandom\\b", "\\bObject\\b", "Exact\\(",
        "\\bvar\\b", "\\bprotected\\b", "\\bnative\\b", "\\bwhile \\(true\\)", "\\.(equals|hashCode|toString)\\(",
        "[^\\x00-\\x7f]", " [/%]=? ",
    };

    public static void main(String[] args) throws IOException {
        String text = Files.readString(SOURCE);
        List<String> lines = Files.readAllLines(SOURCE);
        for (String pattern : RULED_OUT) {
            Check.is("finds of " + pattern, count(withoutComments(text), pattern), 0);
        }
        importsLittle(text);
        throwsLittle(text);
        keepsMethodsShort(lines);
        Check.is("classes", count(withoutComments(text), "\\b(class|interface|enum|record) [A-Z]") <= 12, true);
        Check.end("SourceTest");
    }

    private static String withoutComments(String text) {
        return text.replaceAll("(?s)/\\*.*?\\*/", "").replaceAll("//[^\\n]*", "").replaceAll("\"[^\"\\n]*\"", "\"\"");
    }

    private static int count(String text, String pattern) {
        Matcher matcher = Pattern.compile(pattern).matcher(text);
        int count = 0;
        while (matcher.find()) {
            count++;
        }
        return count;
    }

    private static void importsLittle(String text) {
        Check.is("imports", count(text, "(?m)^import "), count(text, "(?m)^import java\\.util\\.(Arrays|ArrayList|List);"));
    }

    private static void throwsLittle(String text) {
        String allowed = "\\bthrow new (IndexOutOfBounds|IllegalArgument|IllegalState)Exception\\((\"[^\"]*\")?\\);";
        Check.is("throws", count(withoutComments(text), "\\bthrow\\b"), count(text, allowed));
    }

    private static void keepsMethodsShort(List<String> lines) {
        int begin = -1;
        for (int number = 0; number < lines.size(); number++) {
            String line = lines.get(number);
            if (line.matches("( {4}| {8})[a-zA-Z].*\\(.*") && !line.endsWith(";")) {
                begin = number;
            }
            if (begin >= 0 && line.matches("( {4}| {8})\\}")) {
                Check.is("short: " + lines.get(begin).trim(), number - begin < 60, true);
                begin = -1;
            }
            Check.is("width of line " + (number + 1), line.length() <= 120, true);
        }
    }
}
