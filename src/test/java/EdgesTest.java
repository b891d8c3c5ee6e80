import java.io.IOException;
import java.lang.reflect.InvocationTargetException;
import java.lang.reflect.Method;
import java.nio.charset.StandardCharsets;
import java.nio.file.Files;
import java.nio.file.Path;
import java.util.ArrayList;
import java.util.Arrays;
import java.util.List;
import java.util.Map;
import java.util.Set;
import java.util.TreeMap;
import java.util.TreeSet;
import java.util.regex.Matcher;
import java.util.regex.Pattern;
import java.util.stream.Collectors;
import java.util.stream.Stream;

/**
 * Runs of calls at the edges that the document names; src/test/edges has them, in the document's order.
 *
 * A line "= Terms" or "= Promise 7" says which part of the document follows; a line "> .." begins a run on a
 * new object and quotes, word for word, the sentence of that part that the run holds to. Then a row for each
 * call: "name arguments = answer" (without "= answer" it is only made; "8 x .." makes it eight times; least and
 * most are the ends of int; "= number .." is a sheet's number that looks like a finding). 'text "force 3"' puts a text on the tape, 'told "force 3" = 1' does so and calls
 * sea(); \x00 to \xff are bytes. A line that begins with # says why.
 *
 * Behind each row that must change nothing (a refused call, a question, a text with a fault) a twin that was
 * not asked is compared with the object, in all that can be told of them; and at the end there must be a run
 * for each finding of each call, and for each sentence.
 */
public final class EdgesTest {
    private static final Path EDGES = Path.of("src/test/edges");
    private static final Path DOCUMENT = Path.of("../shared/DOC.md");
    private static final int MOST_CALLS = 512;

    private static final List<String> FINDINGS = List.of("BEYOND", "FULL", "KIND", "NONE", "STATE", "MISSING", "SIZE");

    /** The findings of each call that has one, as the document's promises name them. */
    private static final String[] NAMED = {
        "rota BEYOND", "rotaOf BEYOND", "sick BEYOND", "force BEYOND", "blows BEYOND", "lee BEYOND", "lee NONE",
        "thing BEYOND", "thing FULL", "of BEYOND", "set BEYOND", "turn BEYOND", "as BEYOND", "as KIND",
        "days BEYOND", "days STATE", "bribe BEYOND", "bribe STATE", "now BEYOND", "on BEYOND", "comes BEYOND",
        "comes NONE", "meet BEYOND", "meet NONE", "bribes BEYOND", "bribes NONE", "soonest BEYOND", "soonest NONE",
        "reach BEYOND", "swap BEYOND", "swap NONE", "missed BEYOND", "missed NONE", "enough BEYOND", "enough NONE",
        "kind BEYOND", "facing BEYOND", "best BEYOND", "feed BEYOND", "feed FULL", "sheet BEYOND", "sheet SIZE",
        "write BEYOND", "write MISSING", "copy BEYOND", "copy MISSING", "copy KIND", "lays BEYOND", "lays MISSING",
        "book BEYOND", "book MISSING", "read BEYOND", "read MISSING", "undo NONE", "count BEYOND", "status BEYOND"};

    /** Calls that ask and change nothing, whatever they answer. */
    private static final Set<String> QUESTIONS = Set.of("rotaOf", "blows", "lee", "of", "as", "now", "on", "comes",
        "meet", "bribes", "soonest", "reach", "swap", "missed", "enough", "kind", "facing", "best", "read", "count",
        "status");

    private static final Map<String, Method> CALLS = new TreeMap<>();

    private final Set<String> answered = new TreeSet<>();
    private final Quotes quotes;

    private EdgesTest(Quotes quotes) {
        this.quotes = quotes;
    }

    public static void main(String[] args) throws IOException, ReflectiveOperationException {
        for (Method m : WindRota.class.getMethods()) {
            if (m.getDeclaringClass() == WindRota.class) {
                CALLS.put(m.getName(), m);
            }
        }
        EdgesTest test = new EdgesTest(new Quotes(DOCUMENT));
        try (Stream<Path> files = Files.list(EDGES)) {
            for (Path file : files.filter(f -> f.toString().endsWith(".txt")).sorted().collect(Collectors.toList())) {
                test.go(file);
            }
        }
        Due.holds("the findings that runs answer are those that the promises name: " + test.missing(),
            test.answered.equals(new TreeSet<>(Arrays.asList(NAMED))));
        test.quotes.end();
        Due.end();
    }

    private Set<String> missing() {
        Set<String> left = new TreeSet<>(Arrays.asList(NAMED));
        left.removeAll(answered);
        return left;
    }

    private void go(Path file) throws IOException, ReflectiveOperationException {
        String part = "";
        List<Row> run = new ArrayList<>();
        int number = 0;
        for (String line : Files.readAllLines(file, StandardCharsets.US_ASCII)) {
            number++;
            String place = file.getFileName() + " line " + number;
            if (line.startsWith("= ") || line.startsWith("> ")) {
                play(run);
                run = new ArrayList<>();
            }
            if (line.startsWith("= ")) {
                part = line.substring(2);
            } else if (line.startsWith("> ")) {
                quotes.take(place, part, line.substring(2));
            } else if (!line.isBlank() && !line.startsWith("#")) {
                run.add(new Row(place, line));
            }
        }
        play(run);
    }

    private void play(List<Row> run) throws ReflectiveOperationException {
        Player player = new Player();
        for (int i = 0; i < run.size(); i++) {
            Row row = run.get(i);
            long got = player.make(row);
            if (row.due != null) {
                Due.is(row.told(), got, row.due);
            }
            if (row.isRefused()) {
                answered.add(row.name + " " + row.finding());
            }
            if (row.changesNothing()) {
                compareWithTwin(run, i);
            }
        }
    }

    /** The same run up to a row on two new objects; one of them makes it, the other doesn't. */
    private static void compareWithTwin(List<Row> run, int i) throws ReflectiveOperationException {
        Row row = run.get(i);
        Player asked = new Player();
        Player twin = new Player();
        for (Row before : run.subList(0, i)) {
            asked.make(before);
            twin.make(before);
        }
        asked.make(row);
        if (row.isText) {
            // The fault's text is gone then, and so is all else that stood on the tape.
            twin.x.wipe();
        }
        int finding = row.isRefused() ? FINDINGS.indexOf(row.finding()) : -2;
        for (int which = -1; which < FINDINGS.size(); which++) {
            boolean isMore = finding >= 0 && (which == -1 || which == finding);
            Due.is(row.told() + ", then status(" + which + ")", asked.x.status(which),
                twin.x.status(which) + (isMore ? 1 : 0));
        }
        String due = Due.whole(twin.x);
        String got = Due.whole(asked.x);
        Due.holds(row.told() + " changes nothing: " + got + " / " + due, got.equals(due));
    }

    /** An object, and how many calls were made on it. */
    private static final class Player {
        final WindRota x = new WindRota();
        private int calls = 0;

        long make(Row row) throws ReflectiveOperationException {
            long got = 0;
            for (int i = 0; i < row.times; i++) {
                if (row.text != null) {
                    feed(row.text);
                }
                if (row.name != null) {
                    got = call(row);
                }
            }
            Due.holds(row.told() + ": an object is used for at most 512 calls", calls <= MOST_CALLS);
            return got;
        }

        private long call(Row row) throws ReflectiveOperationException {
            calls++;
            try {
                return ((Number) CALLS.get(row.name).invoke(x, row.args)).longValue();
            } catch (InvocationTargetException thrown) {
                Due.holds(row.told() + " threw " + thrown.getCause(), false);
                return 0;
            }
        }

        /** Four bytes a call, so that a run of texts stays below the number of calls. */
        private void feed(byte[] text) {
            for (int from = 0; from < text.length; from += 4) {
                int n = Math.min(4, text.length - from);
                int bytes = 0;
                for (int i = 0; i < n; i++) {
                    bytes = bytes << 8 | text[from + i] & 255;
                }
                x.feed(bytes, n);
                calls++;
            }
        }
    }

    /** One line of a run: a call, or a text for the tape, or both. */
    private static final class Row {
        private static final Pattern FORM = Pattern.compile("(?:(\\d+) x )?(\\w+)((?: -?\\w+)*)(?: = (number )?(-?\\w+))?");
        private static final Pattern TEXT = Pattern.compile("(text|told) \"(.*)\"(?: = (-?\\d+))?");
        private static final Pattern BYTE = Pattern.compile("\\\\x([0-9a-f]{2})");

        private final String place;
        private final String line;
        final int times;
        final String name;
        final Object[] args;
        final byte[] text;
        final boolean isText;
        final Long due;
        private final boolean isNumber;

        Row(String place, String line) {
            this.place = place;
            this.line = line;
            Matcher told = TEXT.matcher(line);
            isText = told.matches();
            if (isText) {
                times = 1;
                name = told.group(1).equals("told") ? "sea" : null;
                args = new Object[0];
                text = BYTE.matcher(told.group(2))
                    .replaceAll(b -> Matcher.quoteReplacement("" + (char) Integer.parseInt(b.group(1), 16)))
                    .getBytes(StandardCharsets.ISO_8859_1);
                due = told.group(3) == null ? null : Long.valueOf(told.group(3));
                isNumber = true;
                return;
            }
            Matcher form = FORM.matcher(line);
            if (!form.matches() || !CALLS.containsKey(form.group(2))) {
                throw new IllegalStateException(place + " is no row: " + line);
            }
            times = form.group(1) == null ? 1 : Integer.parseInt(form.group(1));
            name = form.group(2);
            args = arguments(form.group(3).trim());
            text = null;
            due = form.group(5) == null ? null : answer(form.group(5));
            isNumber = form.group(4) != null;
        }

        private Object[] arguments(String words) {
            String[] each = words.isEmpty() ? new String[0] : words.split(" ");
            Class<?>[] types = CALLS.get(name).getParameterTypes();
            if (each.length != types.length) {
                throw new IllegalStateException(place + " has not as many arguments as " + name + ": " + line);
            }
            Object[] values = new Object[each.length];
            for (int i = 0; i < each.length; i++) {
                values[i] = types[i] == long.class ? (Object) Long.valueOf(each[i]) : (Object) number(each[i]);
            }
            return values;
        }

        private static int number(String word) {
            if (word.equals("least")) {
                return Integer.MIN_VALUE;
            }
            return word.equals("most") ? Integer.MAX_VALUE : Integer.parseInt(word);
        }

        private static long answer(String word) {
            int finding = FINDINGS.indexOf(word);
            return finding >= 0 ? Due.BEYOND - finding : Long.parseLong(word);
        }

        boolean isRefused() {
            return due != null && !isNumber && due <= Due.BEYOND && due >= Due.SIZE;
        }

        String finding() {
            return FINDINGS.get((int) (Due.BEYOND - due));
        }

        boolean changesNothing() {
            return isRefused() || (name != null && QUESTIONS.contains(name)) || (isText && due != null && due < 0);
        }

        String told() {
            return place + ": " + line;
        }
    }

    /** Which words of the document the runs hold to. */
    private static final class Quotes {
        private final Map<String, String> parts = new TreeMap<>();
        private final Map<String, boolean[]> quoted = new TreeMap<>();

        Quotes(Path document) throws IOException {
            if (!Files.exists(document)) {
                System.out.println("  " + document + " isn't here: what is quoted isn't compared with it");
                return;
            }
            String all = Files.readString(document).replace("```text", " ").replace("```", " ");
            String terms = all.substring(all.indexOf("## Terms") + 8, all.indexOf("Ahead of the calls"));
            part("Terms", terms.replaceAll("(?m)^\\d\\. ", ""));
            Matcher promise = Pattern.compile("(?m)^## (Promise \\d+):.*\n\n`[^`]*`: (.*)$").matcher(all);
            while (promise.find()) {
                part(promise.group(1), promise.group(2));
            }
            // The first promise's name alone has no type before it; all the others are found alike.
            Due.is("parts of the document", parts.size(), 42);
        }

        private void part(String name, String text) {
            String plain = text.replaceAll("\\s+", " ").trim();
            parts.put(name, plain);
            quoted.put(name, new boolean[plain.length()]);
        }

        void take(String place, String part, String words) {
            if (parts.isEmpty()) {
                return;
            }
            Due.holds(place + ": there is no " + part, parts.containsKey(part));
            int from = parts.getOrDefault(part, "").indexOf(words);
            Due.holds(place + ": " + part + " doesn't say: " + words, from >= 0);
            if (from >= 0) {
                Arrays.fill(quoted.get(part), from, from + words.length(), true);
            }
        }

        /** Every word of the terms and of the promises must be quoted by a run. */
        void end() {
            for (Map.Entry<String, String> part : parts.entrySet()) {
                StringBuilder left = new StringBuilder();
                for (int i = 0; i < part.getValue().length(); i++) {
                    left.append(quoted.get(part.getKey())[i] ? ' ' : part.getValue().charAt(i));
                }
                String words = left.toString().replaceAll("[^A-Za-z0-9]+", " ").trim();
                Due.holds("no run holds to these words of " + part.getKey() + ": " + words, words.isEmpty());
            }
        }
    }
}
