import java.lang.reflect.InvocationTargetException;
import java.lang.reflect.Method;
import java.util.Arrays;
import java.util.Map;
import java.util.Random;
import java.util.TreeMap;

/** Runs of calls, made from fixed seeds, on WindRota and on the model: every answer must be the same. */
public final class ModelTest {
    private static final int RUNS = 1200;
    /** An object is promised for so many calls, those that feed a text and those that ask for status() among them. */
    private static final int MOST_CALLS = 512;
    private static final int LAST_CALLS = 8;
    private static final int TEXT_CALLS = 40;

    /** For each call the least and the most of each argument, one beyond the edges on both sides. */
    private static final Map<String, int[]> RANGES = new TreeMap<>();
    /** How often a call is made, against 10 for the others. */
    private static final Map<String, Integer> WEIGHTS = Map.of("thing", 25, "sea", 20, "bribes", 3, "soonest", 3,
        "reach", 3, "swap", 3, "tear", 2, "wipe", 1, "days", 15, "sheet", 20);

    private static final String[] WORDS = {"mill", "fisher", "washing", "kite", "captain", "widow", "at", "facing",
        "rota", "sick", "well", "force", ";", " ", "  ", "0", "1", "5", "7", "8", "9", "10", "35", "36", "999",
        "1000", "007", "4294967296", "a", "mills", "At", "\t", ",", "\u00e9", "\u0000", "-"};

    public static void main(String[] args) throws ReflectiveOperationException {
        ranges();
        everyEarning();
        for (int run = 0; run < RUNS; run++) {
            new ModelTest(run).go();
        }
        Due.end();
    }

    /** What each kind earns and whether it goes: every facing, wind and force, on a day of rest 1 and beside it. */
    private static void everyEarning() {
        for (int kind = 0; kind < 6; kind++) {
            for (int facing = 0; facing < 8; facing++) {
                for (int day = 0; day < 3; day++) {
                    earnings(kind, facing, day);
                }
            }
        }
    }

    private static void earnings(int kind, int facing, int day) {
        WindRota x = new WindRota();
        Model model = new Model();
        x.thing(kind, 14);
        model.thing(kind, 14);
        x.set(0, 2, facing);
        model.set(0, 2, facing);
        for (int d = 0; d < day; d++) {
            x.days(1);
            model.days(1);
        }
        for (int wind = 0; wind <= 8; wind++) {
            for (int force = 0; force <= 9; force++) {
                x.rota(day, wind);
                model.rota(day, wind);
                x.force(force);
                model.force(force);
                String who = "kind " + kind + " facing " + facing + " on day " + day + " by " + wind + ", " + force;
                Due.is(who + " earns", x.of(0, 4), model.of(0, 4));
                Due.is(who + " goes", x.of(0, 5), model.of(0, 5));
            }
        }
    }

    private static void range(String call, int... edges) {
        RANGES.put(call, edges);
    }

    private static void ranges() {
        range("rota", -1, 7, -1, 9);
        range("rotaOf", -1, 7);
        range("sick", -1, 8, -1, 2);
        range("force", -1, 10);
        range("blows", -1, 20);
        range("lee", -1, 36, -1, 8);
        range("thing", -1, 6, -1, 36);
        range("of", -1, 8, -1, 6);
        range("set", -1, 8, 0, 4, -1, 9);
        range("turn", -1, 8, -1, 6);
        range("as", -1, 8, -1, 6);
        range("days", 0, 61);
        range("bribe", -1, 8);
        range("now", -1, 7);
        range("on", -1, 8, -1, 61, -1, 2);
        range("comes", -1, 8, -1, 36);
        range("meet", -1, 8, -1, 8);
        range("bribes", -1, 8, -1, 36, -1, 31);
        range("soonest", -1, 8, -1, 36, -1, 31);
        range("reach", -1, 8, -1, 31);
        range("swap", 0, 31);
        range("missed", 0, 31);
        range("enough", 0, 31, -1, 600);
        range("kind", -1, 8, 0, 31);
        range("facing", -1, 8, 0, 31);
        range("best", -1, 7, 0, 31);
        range("feed", 0, 255, 0, 5);
        range("wipe");
        range("sea");
        range("sheet", -1, 4, 0, 0, -1, 41);
        range("write", -1, 4, -1, 40, -2, 9);
        range("copy", -1, 4, -1, 20, -1, 4, -1, 20, -1, 20);
        range("lays", -1, 4);
        range("book", -1, 4, -1, 8);
        range("read", -1, 4, -1, 8);
        range("image");
        range("undo");
        range("tear");
        range("count", -1, 4);
        range("status", -2, 7);
    }

    private final Random random;
    private final int run;
    private final WindRota program = new WindRota();
    private final Model model = new Model();
    private final Map<String, Method> ofProgram = new TreeMap<>();
    private final Map<String, Method> ofModel = new TreeMap<>();
    private String lastText = "";
    private int calls = 0;

    private ModelTest(int run) {
        this.run = run;
        this.random = new Random(7919L * run + 17);
        for (Method m : WindRota.class.getDeclaredMethods()) {
            if (RANGES.containsKey(m.getName())) {
                ofProgram.put(m.getName(), m);
            }
        }
        for (Method m : Model.class.getDeclaredMethods()) {
            if (RANGES.containsKey(m.getName())) {
                ofModel.put(m.getName(), m);
            }
        }
    }

    private void go() throws ReflectiveOperationException {
        startLate();
        while (has(LAST_CALLS + 1)) {
            String name = someName();
            if (name.equals("sea") && has(LAST_CALLS + TEXT_CALLS)) {
                feedText();
            }
            call(name);
        }
        for (int which = -1; which < 7; which++) {
            same("status", which);
        }
        Due.is("run " + run + ": calls of one object", calls, MOST_CALLS);
    }

    private boolean has(int more) {
        return calls + more <= MOST_CALLS;
    }

    private String someName() {
        int all = RANGES.keySet().stream().mapToInt(n -> WEIGHTS.getOrDefault(n, 10)).sum();
        int left = random.nextInt(all);
        for (String name : RANGES.keySet()) {
            left -= WEIGHTS.getOrDefault(name, 10);
            if (left < 0) {
                return name;
            }
        }
        throw new IllegalStateException("the weights are not those of the calls");
    }

    /** Some runs begin near the last day. */
    private void startLate() throws ReflectiveOperationException {
        for (int c = 0; run % 10 == 3 && c < 166; c++) {
            same("days", 60);
        }
    }

    private void call(String name) throws ReflectiveOperationException {
        Class<?>[] types = ofProgram.get(name).getParameterTypes();
        Object[] args = new Object[types.length];
        for (int a = 0; a < types.length; a++) {
            long v = argument(name, a);
            args[a] = types[a] == long.class ? (Object) v : (Object) (int) v;
        }
        same(name, args);
    }

    private long argument(String name, int a) {
        int least = RANGES.get(name)[2 * a];
        int most = RANGES.get(name)[2 * a + 1];
        int odd = random.nextInt(100);
        if (name.equals("sheet") && a == 1) {
            return new int[] {0, 8, 8, 16, 16, 64, 64, 7}[random.nextInt(8)];
        }
        if (odd == 0) {
            long[] far = {Integer.MIN_VALUE, Integer.MAX_VALUE, 99999, 100000, 9999, 10000, 65536, -32769};
            return far[random.nextInt(far.length)];
        }
        if (name.equals("set") && a == 2 && odd < 20) {
            return odd < 5 ? 99990 + random.nextInt(11) : random.nextInt(40000);
        }
        if (name.equals("write") && a == 2 && odd < 30) {
            return random.nextLong();
        }
        if (name.equals("feed") && a == 0) {
            return random.nextInt();
        }
        if (odd < 8) {
            return least + random.nextInt(most - least + 1);
        }
        // Mostly what is within: the edges themselves are asked above.
        return most - least > 2 ? least + 1 + random.nextInt(most - least - 1) : least + random.nextInt(most - least + 1);
    }

    private void same(String name, Object... args) throws ReflectiveOperationException {
        String call = "run " + run + ": " + name + Arrays.toString(args) + (name.equals("sea") ? " " + lastText : "");
        long got;
        calls++;
        try {
            got = ((Number) ofProgram.get(name).invoke(program, args)).longValue();
        } catch (InvocationTargetException thrown) {
            Due.holds(call + " threw " + thrown.getCause(), false);
            return;
        }
        Due.is(call, got, ((Number) ofModel.get(name).invoke(model, args)).longValue());
    }

    private void feedText() throws ReflectiveOperationException {
        if (random.nextInt(10) > 0) {
            same("wipe");
        }
        StringBuilder text = new StringBuilder();
        int items = 1 + random.nextInt(5);
        for (int i = 0; i < items; i++) {
            text.append(i > 0 ? random.nextInt(8) == 0 ? " ; " : ";" : "").append(item());
        }
        for (int n = random.nextInt(3); n > 1; n--) {
            spoil(text);
        }
        lastText = text.toString();
        // The first piece is of 1 to 4 bytes, so that the others begin anywhere in a word.
        int from = 0;
        for (int n = 1 + random.nextInt(4); from < text.length(); n = 4) {
            int to = Math.min(text.length(), from + n);
            same("feed", number(text.substring(from, to)), to - from);
            from = to;
        }
    }

    /** The bytes of a piece of text, the first of them highest. */
    private static int number(String piece) {
        int bytes = 0;
        for (char c : piece.toCharArray()) {
            bytes = bytes << 8 | c;
        }
        return bytes;
    }

    private String item() {
        switch (random.nextInt(6)) {
            case 0: return "sick " + random.nextInt(8);
            case 1: return "well " + random.nextInt(9);
            case 2: return "force" + random.nextInt(10);
            case 3:
                StringBuilder rota = new StringBuilder("rota");
                for (int n = random.nextInt(8); n >= 0; n--) {
                    rota.append(' ').append(random.nextInt(9));
                }
                return rota.toString();
            default:
                String facing = random.nextBoolean() ? "" : " facing " + random.nextInt(8);
                return WORDS[random.nextInt(6)] + " at " + random.nextInt(37) + facing;
        }
    }

    private void spoil(StringBuilder text) {
        int place = random.nextInt(text.length() + 1);
        String word = WORDS[random.nextInt(WORDS.length)];
        switch (random.nextInt(4)) {
            case 0:
                text.setLength(place);
                break;
            case 1:
                text.replace(place, Math.min(text.length(), place + word.length()), word);
                break;
            default:
                text.insert(place, word);
        }
        if (text.length() == 0) {
            text.append(' ');
        }
    }
}
