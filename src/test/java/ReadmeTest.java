import java.io.IOException;
import java.lang.reflect.Method;
import java.net.URL;
import java.net.URLClassLoader;
import java.nio.file.Files;
import java.nio.file.Path;
import java.util.ArrayList;
import java.util.List;
import java.util.regex.Matcher;
import java.util.regex.Pattern;
import javax.tools.JavaCompiler;
import javax.tools.ToolProvider;

/**
 * The examples of README.md: compiled as they stand there, each call must answer what its comment begins with
 * (a number, or a finding's name). A block that begins with "static" is a function that the others use.
 */
public final class ReadmeTest {
    private static final Path README = Path.of("README.md");
    private static final Pattern BLOCK = Pattern.compile("(?ms)^```java\n(.*?)^```$");
    private static final Pattern CALL = Pattern.compile("(?:int (\\w+) = )?((?:x\\.|tell\\(x).*\\));\\s+// (-?\\w+)(:.*)?");
    private static final List<String> FINDINGS = List.of("BEYOND", "FULL", "KIND", "NONE", "STATE", "MISSING", "SIZE");

    public static void main(String[] args) throws IOException, ReflectiveOperationException {
        String page = Files.readString(README);
        for (Object[] row : answers(program(page))) {
            Due.is("README: " + row[0], (Long) row[1], (Long) row[2]);
        }
        for (Method m : WindRota.class.getDeclaredMethods()) {
            Due.holds("README names " + m.getName(), !isPublic(m) || page.contains("`" + m.getName() + "`"));
        }
        for (int i = 0; i < FINDINGS.size(); i++) {
            String row = "| " + FINDINGS.get(i) + " | " + (Due.BEYOND - i) + " | " + i + " |";
            Due.holds("README has the row " + row, page.contains(row));
        }
        Due.holds("README says how the tests are run", page.contains("\n.ci/run\n"));
        Due.end();
    }

    private static boolean isPublic(Method m) {
        return java.lang.reflect.Modifier.isPublic(m.getModifiers());
    }

    /** A class whose function all() makes the calls and tells of each: its line, what it answered, what is due. */
    private static String program(String page) {
        StringBuilder functions = new StringBuilder();
        StringBuilder runs = new StringBuilder();
        int calls = 0;
        Matcher block = BLOCK.matcher(page);
        while (block.find()) {
            if (block.group(1).startsWith("static ")) {
                functions.append(block.group(1));
                continue;
            }
            runs.append("{\n");
            for (String line : block.group(1).split("\n")) {
                Matcher call = CALL.matcher(line);
                boolean isCall = call.matches();
                Due.holds("README tells what is due: " + line, isCall || line.equals("WindRota x = new WindRota();"));
                runs.append(isCall ? asked(call, line) : line).append('\n');
                calls += isCall ? 1 : 0;
            }
            runs.append("}\n");
        }
        Due.holds("README has examples: " + calls, calls > 30);
        return "public final class Examples {\n" + functions + "public static java.util.List<Object[]> all() {\n"
            + "java.util.List<Object[]> rows = new java.util.ArrayList<>();\n" + runs + "return rows;\n}\n}\n";
    }

    private static String asked(Matcher call, String line) {
        int finding = FINDINGS.indexOf(call.group(3));
        long due = finding >= 0 ? Due.BEYOND - finding : Long.parseLong(call.group(3));
        String name = call.group(1);
        String told = line.replace("\\", "\\\\").replace("\"", "\\\"");
        String first = name == null ? "" : "int " + name + " = " + call.group(2) + ";\n";
        return first + "rows.add(new Object[] {\"" + told + "\", (long) " + (name == null ? call.group(2) : name) + ", "
            + due + "L});";
    }

    private static List<Object[]> answers(String program) throws IOException, ReflectiveOperationException {
        Path room = Files.createTempDirectory("readme");
        Path source = room.resolve("Examples.java");
        List<Object[]> rows = new ArrayList<>();
        try {
            Files.writeString(source, program);
            JavaCompiler compiler = ToolProvider.getSystemJavaCompiler();
            int code = compiler.run(null, System.out, System.out, "-cp", System.getProperty("java.class.path"),
                "-d", room.toString(), source.toString());
            Due.is("README's examples compile", code, 0);
            if (code == 0) {
                try (URLClassLoader loader = new URLClassLoader(new URL[] {room.toUri().toURL()})) {
                    for (Object row : (List<?>) loader.loadClass("Examples").getMethod("all").invoke(null)) {
                        rows.add((Object[]) row);
                    }
                }
            }
        } finally {
            Files.deleteIfExists(room.resolve("Examples.class"));
            Files.deleteIfExists(source);
            Files.deleteIfExists(room);
        }
        return rows;
    }
}
