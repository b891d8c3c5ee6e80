import java.nio.charset.StandardCharsets;

/** What the tests share: the findings, the count of wrong answers, and texts put on the tape. */
final class Due {
    static final int BEYOND = -1000000001;
    static final int FULL = -1000000002;
    static final int KIND = -1000000003;
    static final int NONE = -1000000004;
    static final int STATE = -1000000005;
    static final int MISSING = -1000000006;
    static final int SIZE = -1000000007;

    private static int asked = 0;
    private static int wrong = 0;

    private Due() {
    }

    static void is(String call, long got, long want) {
        asked++;
        if (got != want) {
            wrong++;
            System.out.println("  " + call + " answered " + got + ", due is " + want);
        }
    }

    static void holds(String what, boolean holds) {
        is(what, holds ? 1 : 0, 1);
    }

    /** Ends the test: exit code 1 if an answer was wrong, or if nothing was asked. */
    static void end() {
        System.out.println("  " + asked + " answers, " + wrong + " wrong");
        System.exit(wrong == 0 && asked > 0 ? 0 : 1);
    }

    static void feed(WindRota x, String text) {
        for (byte b : text.getBytes(StandardCharsets.ISO_8859_1)) {
            x.feed(b, 1);
        }
    }

    static int sea(WindRota x, String text) {
        feed(x, text);
        return x.sea();
    }

    /** All that can be asked of an object without changing it (but status()), as a text. */
    static String all(WindRota x) {
        StringBuilder told = new StringBuilder();
        for (int d = 0; d < 7; d++) {
            told.append(x.rotaOf(d)).append(' ');
        }
        for (int what = 0; what < 7; what++) {
            told.append(x.now(what)).append(' ');
        }
        for (int what = 0; what < 4; what++) {
            told.append(x.count(what)).append(' ');
        }
        for (int t = 0; t < x.count(0); t++) {
            for (int what = 0; what < 6; what++) {
                told.append(x.of(t, what)).append(' ');
            }
        }
        return told.toString();
    }

    /** The numbers of a sheet as a text (what stands there is put back); "missing" if it is. */
    static String numbers(WindRota x, int s) {
        StringBuilder told = new StringBuilder();
        for (int i = 0; i <= 40; i++) {
            long was = x.write(s, i, 0);
            if (was == MISSING) {
                return "missing";
            }
            if (was == BEYOND) {
                return told.toString();
            }
            x.write(s, i, was);
            told.append(was).append(' ');
        }
        return told.toString();
    }

    /** All that two objects can be told apart by, but status(); what is asked changes the object. */
    static String whole(WindRota x) {
        StringBuilder told = new StringBuilder(all(x));
        for (int s = 0; s < 4; s++) {
            told.append("sheet ").append(numbers(x, s));
            // How many bits it has is seen by what comes back of a number that needs many.
            x.write(s, 0, 1L << 40 | 1L << 12 | 1);
            told.append("bits ").append(x.write(s, 0, 0)).append(' ');
        }
        told.append("text ").append(x.sea()).append(' ').append(all(x));
        return told.append("image ").append(x.undo()).append(' ').append(all(x)).toString();
    }
}
