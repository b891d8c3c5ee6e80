import java.io.IOException;
import java.nio.file.Files;
import java.nio.file.Path;
import java.util.regex.Matcher;
import java.util.regex.Pattern;

/** The rules of LANGUAGE.md that can be seen in the text of the program. */
public final class LanguageTest {
    private static final String[] FORBIDDEN = {
        "\\b(throw|throws|try|catch|finally|synchronized|assert|volatile|transient|native|strictfp)\\b",
        "\\b(package|import|protected)\\b", "->", "::", "\\bvar\\b", "@", "\\bObject\\b", "\\bSystem\\.(?!arraycopy)",
        "\\w+Exact\\b", "\\b(hashCode|toString|getClass|random|nanoTime|Thread)\\b", "\\bstatic\\s*\\{",
        "\\[\\]\\s*\\[\\]\\s*\\["};

    public static void main(String[] args) throws IOException {
        String source = Files.readString(Path.of("src/main/java/WindRota.java"));
        String code = source.replaceAll("(?s)/\\*.*?\\*/", "").replaceAll("//[^\n]*", "").replaceAll("\"[^\"\n]*\"", "\"\"");
        for (String pattern : FORBIDDEN) {
            Matcher found = Pattern.compile(pattern).matcher(code);
            Due.holds("none of " + pattern, !found.find());
        }
        Due.holds("ASCII alone", source.chars().allMatch(c -> c < 128));
        int longest = 0;
        int begin = 0;
        String[] lines = source.split("\n");
        for (int i = 0; i < lines.length; i++) {
            Due.holds("line " + (i + 1) + " is short", lines[i].length() <= 120);
            if (lines[i].matches("^( {4}| {8})\\S.*\\) \\{$")) {
                begin = i;
            } else if (lines[i].matches("^( {4}| {8})\\}$")) {
                longest = Math.max(longest, i - begin);
            }
        }
        Due.holds("no method is long: " + longest, longest <= 60);
        Due.end();
    }
}
