import java.io.IOException;
import java.nio.charset.StandardCharsets;
import java.nio.file.Files;
import java.nio.file.Path;
import java.util.regex.Matcher;
import java.util.regex.Pattern;

/** A rough reader of FerroDesk.java: what LANGUAGE.md rules out and a pattern can find. */
public final class LanguageTest {
    private static final String[] RULED_OUT = {
        "^import ", "^package ", "\\bcatch\\b", "\\btry\\b", "\\bfinally\\b", "\\bassert\\b",
        "\\bsynchronized\\b", "->", "::", "\\bstatic\\s*\\{", "Exact\\b", "\\bSystem\\.(?!arraycopy)",
        "\\bRandom\\b", "\\bThread\\b", "Math\\.(sqrt|pow|random|floor\\b|ceil|round)",
        "\\bprotected\\b", "\\bString\\.format\\b",
        "\\bnew (Integer|Long|Object)\\b", "\\.(equals|hashCode|toString)\\(",
    };

    public static void main(String[] args) throws IOException {
        String source = Files.readString(Path.of("src/main/java/FerroDesk.java"),
                StandardCharsets.ISO_8859_1);
        Check.same("signs of 7 bits alone", source.chars().allMatch(sign -> sign < 127), true);
        String code = source.replaceAll("(?s)/\\*.*?\\*/", "").replaceAll("//[^\n]*", "");
        for (String pattern : RULED_OUT) {
            Matcher found = Pattern.compile(pattern, Pattern.MULTILINE).matcher(code);
            Check.same("of " + pattern, found.find() ? found.group() : "none", "none");
        }
        Check.same("throws of a written text alone", count(code, "\\bthrow\\b"),
                count(code, "throw new (IllegalState|IllegalArgument|IndexOutOfBounds|Arithmetic"
                        + "|UnsupportedOperation)Exception\\(\"[^\"]*\"\\);"));
        checkLengths(code);
        Check.finish("LanguageTest");
    }

    private static int count(String code, String pattern) {
        return (int) Pattern.compile(pattern).matcher(code).results().count();
    }

    private static void checkLengths(String code) {
        int longest = 0;
        int length = 0;
        int depth = 0;
        int parameters = 0;
        for (String line : code.split("\n")) {
            if (line.matches("\\s+(private |public )?(static )?[\\w\\[\\]]+ \\w+\\(.*\\) \\{")) {
                length = 0;
                parameters = Math.max(parameters, count(line, ",") + 1);
            }
            length++;
            depth += count(line, "\\{") - count(line, "\\}");
            if (line.trim().equals("}")) {
                longest = Math.max(longest, depth > 0 ? length : 0);
            }
            if (line.isBlank()) {
                length = 0;
            }
        }
        Check.same("methods of sixty lines at most", longest <= 60, true);
        Check.same("seven parameters at most", parameters <= 7, true);
        Check.same("twelve classes at most", count(code, "\\bclass\\b") <= 12, true);
    }
}
