import java.io.IOException;
import java.lang.reflect.Constructor;
import java.lang.reflect.Field;
import java.lang.reflect.Member;
import java.lang.reflect.Method;
import java.lang.reflect.Modifier;
import java.nio.file.Files;
import java.nio.file.Path;
import java.util.ArrayList;
import java.util.LinkedHashMap;
import java.util.List;
import java.util.Map;
import java.util.Set;
import java.util.TreeSet;
import java.util.regex.Matcher;
import java.util.regex.Pattern;

/** The class has the document's face, and nothing else can be seen of it. */
public final class FaceTest {
    private static final Path DOCUMENT = Path.of("../shared/DOC.md");
    private static final Path PROGRAM = Path.of("src/main/java/WindRota.java");

    private static final Set<String> FACE = Set.of(
        "int rota(int,int)", "int rotaOf(int)", "int sick(int,int)", "int force(int)", "int blows(int)",
        "int lee(int,int)", "int thing(int,int)", "int of(int,int)", "int set(int,int,int)", "int turn(int,int)",
        "int as(int,int)", "int days(int)", "int bribe(int)", "int now(int)", "int on(int,int,int)",
        "int comes(int,int)", "int meet(int,int)", "int bribes(int,int,int)", "int soonest(int,int,int)",
        "long reach(int,int)", "int swap(int)", "int missed(int)", "int enough(int,int)", "int kind(int,int)",
        "int facing(int,int)", "int best(int,int)", "int feed(int,int)", "int wipe()", "int sea()",
        "int sheet(int,int,int)", "long write(int,int,long)", "int copy(int,int,int,int,int)", "int lays(int)",
        "int book(int,int)", "int read(int,int)", "int image()", "int undo()", "int tear()", "int count(int)",
        "int status(int)");

    public static void main(String[] args) throws IOException {
        Class<?> type = WindRota.class;
        Due.holds("public and final", Modifier.isPublic(type.getModifiers()) && Modifier.isFinal(type.getModifiers()));
        Set<String> names = new TreeSet<>();
        Set<String> seen = new TreeSet<>();
        for (Method m : type.getDeclaredMethods()) {
            if (Modifier.isPublic(m.getModifiers())) {
                seen.add(told(m));
                names.add(m.getName());
                Due.holds(m + " is no static method", !Modifier.isStatic(m.getModifiers()));
            } else {
                isHidden(m);
            }
        }
        Due.holds("the methods are the document's: " + seen, seen.equals(FACE));
        for (Method m : type.getDeclaredMethods()) {
            Due.holds(m + " bears no name of the face", Modifier.isPublic(m.getModifiers()) || !names.contains(m.getName()));
        }
        Constructor<?>[] makers = type.getDeclaredConstructors();
        Due.is("constructors", makers.length, 1);
        Due.holds("a public constructor without arguments",
            Modifier.isPublic(makers[0].getModifiers()) && makers[0].getParameterCount() == 0);
        for (Field f : type.getDeclaredFields()) {
            isHidden(f);
            isStill(f);
        }
        Due.holds("at most twelve classes", type.getDeclaredClasses().length < 12);
        for (Class<?> inside : type.getDeclaredClasses()) {
            Due.holds(inside + " is static", Modifier.isStatic(inside.getModifiers()));
            Due.holds(inside + " is private", Modifier.isPrivate(inside.getModifiers()));
            for (Field f : inside.getDeclaredFields()) {
                isStill(f);
            }
            for (Method m : inside.getDeclaredMethods()) {
                Due.holds(m + " bears no name of the face", !names.contains(m.getName()));
            }
        }
        if (Files.exists(DOCUMENT)) {
            isWrittenAs(Files.readString(DOCUMENT), Files.readString(PROGRAM));
        } else {
            System.out.println("  " + DOCUMENT + " isn't here: the face isn't compared with it");
        }
        Due.end();
    }

    /** The face stands in the program as the document writes it: names, parameters, order, and what is said ahead. */
    private static void isWrittenAs(String document, String program) {
        String face = document.substring(document.indexOf("```java"), document.indexOf("## Terms"));
        List<String> written = all(program, "(?m)^ {0,4}(public .*?) \\{$");
        Due.is("lines of the face", written.size(), 42);
        Due.holds("the face: " + written, written.equals(all(face, "(?m)^ *(public .*?)(?: \\{|;)$")));
        Map<String, List<String>> due = new LinkedHashMap<>();
        Matcher ahead = Pattern.compile("(?m)^Ahead of the calls (.*) the interface says: (---- .*)\\.$").matcher(document);
        while (ahead.find()) {
            due.put(ahead.group(2), all(ahead.group(1), "`(\\w+)`"));
        }
        Map<String, List<String>> said = new LinkedHashMap<>();
        Matcher part = Pattern.compile("(?s)// (---- [^\n]*)\n(.*?)(?=// ----)").matcher(program);
        while (part.find()) {
            said.put(part.group(1), all(part.group(2), "(?m)^    public \\w+ (\\w+)\\("));
        }
        Due.is("parts of the interface", due.size(), 7);
        Due.holds("what the interface says: " + said, said.toString().equals(due.toString()));
    }

    private static List<String> all(String text, String pattern) {
        List<String> found = new ArrayList<>();
        Matcher matcher = Pattern.compile(pattern).matcher(text);
        while (matcher.find()) {
            found.add(matcher.group(1));
        }
        return found;
    }

    private static void isHidden(Member member) {
        Due.holds(member + " is private", Modifier.isPrivate(member.getModifiers()) || member.isSynthetic());
    }

    private static void isStill(Field f) {
        Due.holds(f + " is no static state", !Modifier.isStatic(f.getModifiers()) || Modifier.isFinal(f.getModifiers()));
    }

    private static String told(Method m) {
        StringBuilder text = new StringBuilder(m.getReturnType().getName()).append(' ').append(m.getName()).append('(');
        for (Class<?> type : m.getParameterTypes()) {
            text.append(text.charAt(text.length() - 1) == '(' ? "" : ",").append(type.getName());
        }
        return text.append(')').toString();
    }
}
