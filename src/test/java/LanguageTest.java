import java.io.IOException;
import java.lang.reflect.Field;
import java.lang.reflect.Method;
import java.lang.reflect.Modifier;
import java.nio.file.Files;
import java.nio.file.Path;
import java.util.Arrays;
import java.util.List;
import java.util.Set;
import java.util.regex.Matcher;
import java.util.regex.Pattern;

/** The rules of LANGUAGE.md that can be seen in the text of the program. */
public final class LanguageTest {
    private static final String[] FORBIDDEN = {
        "\\b(throw|throws|try|catch|finally|synchronized|assert|volatile|transient|native|strictfp)\\b",
        "\\b(package|import|protected)\\b", "->", "::", "\\bvar\\b", "@", "\\bObject\\b", "\\bSystem\\.(?!arraycopy)",
        "\\w+Exact\\b", "\\b(hashCode|toString|getClass|random|nanoTime|Thread)\\b", "\\bstatic\\s*\\{",
        "\\[\\]\\s*\\[\\]\\s*\\["};

    /** All that the program uses of the library (rule 4); whatever else bears a dot is its own. */
    private static final Set<String> LIBRARY = Set.of("Math.max", "Math.min", "Math.floorMod", "Integer.bitCount",
        "System.arraycopy");
    private static final Set<String> FIELD_TYPES = Set.of("int", "boolean", "int[]", "long[]", "Thing", "Thing[]", "Sea",
        "Ways", "Pick", "Tape", "Teller", "Sheet[]");

    public static void main(String[] args) throws IOException {
        String source = Files.readString(Path.of("src/main/java/WindRota.java"));
        String code = source.replaceAll("(?s)/\\*.*?\\*/", "").replaceAll("//[^\n]*", "").replaceAll("\"[^\"\n]*\"", "\"\"");
        for (String pattern : FORBIDDEN) {
            Matcher found = Pattern.compile(pattern).matcher(code);
            Due.holds("none of " + pattern, !found.find());
        }
        Due.holds("ASCII alone", source.chars().allMatch(c -> c < 128));
        int longest = 0;
        int begin = 0;
        String[] lines = source.split("\n");
        for (int i = 0; i < lines.length; i++) {
            Due.holds("line " + (i + 1) + " is short", lines[i].length() <= 120);
            if (lines[i].matches("^( {4}| {8})\\S.*\\) \\{$")) {
                begin = i;
            } else if (lines[i].matches("^( {4}| {8})\\}$")) {
                longest = Math.max(longest, i - begin);
            }
        }
        Due.holds("no method is long: " + longest, longest <= 60);
        isOfTheLibrary(code);
        isSmall(WindRota.class);
        for (Class<?> inside : WindRota.class.getDeclaredClasses()) {
            isSmall(inside);
        }
        Due.end();
    }

    private static void isOfTheLibrary(String code) {
        List<String> own = Arrays.stream(WindRota.class.getDeclaredClasses()).map(Class::getSimpleName).toList();
        Matcher used = Pattern.compile("\\b([A-Z]\\w*)\\.\\w+").matcher(code);
        while (used.find()) {
            Due.holds(used.group() + " is of the library", own.contains(used.group(1)) || LIBRARY.contains(used.group()));
        }
    }

    /** Rules 3 and 11: few parameters, few fields, and those of plain types. */
    private static void isSmall(Class<?> type) {
        int fields = 0;
        for (Field f : type.getDeclaredFields()) {
            fields += Modifier.isStatic(f.getModifiers()) ? 0 : 1;
            Due.holds(f + " is of a plain type", FIELD_TYPES.contains(f.getType().getSimpleName()));
        }
        Due.holds(type + " has few fields: " + fields, fields <= 20);
        for (Method m : type.getDeclaredMethods()) {
            Due.holds(m + " has few parameters", m.getParameterCount() <= 7);
        }
    }
}
