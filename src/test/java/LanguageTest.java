import java.io.IOException;
import java.nio.file.Files;
import java.nio.file.Path;
import java.util.List;
import java.util.regex.Matcher;
import java.util.regex.Pattern;

/** What of LANGUAGE.md can be seen in the text of the class. It is run from the project's directory. */
public final class LanguageTest {
    private static final Checks CHECKS = new Checks("LanguageTest");
    private static final Path SOURCE = Path.of("src/main/java/QuaternionNet.java");
    private static final String[] NEVER = {"\\bthrow\\b", "\\bthrows\\b", "\\btry\\b", "\\bcatch\\b", "\\bfinally\\b",
        "\\bsynchronized\\b", "\\bassert\\b", "->", "::", "\\bException\\b", "\\w+Exact\\b", "\\bSystem\\.(?!arraycopy)",
        "\\bThread\\b", "\\bRandom\\b", "\\bhashCode\\b", "\\bequals\\b", "\\btoString\\b", "\\bprotected\\b", "\"", "@",
        "\\bvar\\b", "\\bdefault:\\s*\\}", "static\\s*\\{", "\\bimport\\s+(?!java\\.util\\.Arrays;)", "\\bpackage\\b",
        "\\bArrays\\.(?!fill\\b|copyOf\\b|copyOfRange\\b)", "\\bMath\\.(?!max\\b|min\\b|abs\\b|floorMod\\b|floorDiv\\b)"};
    private static final int METHOD_LINES = 60;

    private static void methodLengths(List<String> lines) {
        Pattern head = Pattern.compile("^( {4}| {8})(public |private |static )*[\\w\\[\\]]+ \\w+\\(.*\\{$");
        for (int i = 0; i < lines.size(); i++) {
            Matcher matcher = head.matcher(lines.get(i));
            if (!matcher.find()) continue;
            int end = i;
            while (end < lines.size() && !lines.get(end).equals(matcher.group(1) + "}")) end++;
            CHECKS.due("lines of " + lines.get(i).trim() + " beyond the most", Math.max(0, end - i + 1 - METHOD_LINES), 0);
        }
    }

    public static void main(String[] args) throws IOException {
        String text = Files.readString(SOURCE);
        String code = text.replaceAll("(?s)/\\*.*?\\*/", "").replaceAll("//[^\n]*", "");
        for (String never : NEVER) {
            Matcher matcher = Pattern.compile(never).matcher(code);
            CHECKS.due("how often " + never, matcher.results().count(), 0);
        }
        CHECKS.due("signs that are not plain", text.chars().filter(sign -> sign > 126 || sign < 32 && sign != '\n').count(), 0);
        methodLengths(text.lines().toList());
        CHECKS.end();
    }
}
