/** Promises 8 to 12: things, what they earn and whether they go. */
public final class ThingsTest {
    /** With force 4, facing 0, on a day whose rest isn't 1: by kind, then by wind 0 to 8. */
    private static final int[][] EARNS_4 = {
        {4, 3, 2, 1, 0, 1, 2, 3, 0},
        {5, 4, 3, 2, 1, 2, 3, 4, 1},
        {3, 3, 3, 3, 3, 3, 3, 3, 0},
        {8, 3, 2, 1, 0, 1, 2, 3, 0},
        {5, 4, 0, 0, 0, 0, 0, 4, 0},
        {3, 3, 3, 3, 3, 3, 3, 3, 0}};

    /** With wind 1 and facing 0: by kind, then by force 0 to 9. */
    private static final int[][] EARNS_BY_FORCE = {
        {0, 0, 1, 2, 3, 4, 5, 6, 7, 8},
        {1, 1, 2, 3, 4, 5, 6, 7, 8, 9},
        {0, 3, 3, 3, 3, 3, 0, 0, 0, 0},
        {0, 0, 1, 2, 3, 4, 5, 6, 7, 8},
        {0, 0, 2, 3, 4, 5, 6, 7, 8, 9},
        {0, 3, 3, 3, 3, 3, 0, 0, 0, 0}};

    /** With wind 1 and facing 0: from which force on it goes; 10: never. */
    private static final int[] GOES_FROM = {10, 2, 9, 10, 2, 9};

    public static void main(String[] args) {
        newOnes();
        earnsByWind();
        earnsByForce();
        goesByWind();
        tuesdays();
        set();
        turn();
        as();
        wrong();
        Due.end();
    }

    private static WindRota six() {
        WindRota x = new WindRota();
        for (int k = 0; k < 6; k++) {
            x.thing(k, 14);
        }
        return x;
    }

    private static void newOnes() {
        WindRota x = new WindRota();
        int[] kinds = {5, 0, 4, 1, 3, 2, 5, 5};
        for (int t = 0; t < 8; t++) {
            Due.is("thing " + t, x.thing(kinds[t], 35 - t), t);
        }
        for (int t = 0; t < 8; t++) {
            Due.is("of(" + t + ", 0)", x.of(t, 0), kinds[t]);
            Due.is("of(" + t + ", 1)", x.of(t, 1), 35 - t);
            Due.is("of(" + t + ", 2)", x.of(t, 2), 0);
            Due.is("of(" + t + ", 3)", x.of(t, 3), 0);
        }
        Due.is("a 9th", x.thing(0, 0), Due.FULL);
        Due.is("a 9th of no kind", x.thing(6, 0), Due.BEYOND);
        Due.is("a 9th at no cell", x.thing(0, 36), Due.BEYOND);
        Due.is("count(0)", x.count(0), 8);
        Due.is("what eight earn", x.now(5), 3 + 4 + 5 + 5 + 8 + 3 + 3 + 3);
        Due.is("who of eight goes", x.now(6), 4 + 8);
        Due.is("days(1) of eight", x.days(1), 34);
        x.image();
        Due.is("undo() of eight", x.undo(), 8);
        Due.is("swap(2) of eight", x.swap(2) == Due.BEYOND ? 1 : 0, 0);
    }

    private static void earnsByWind() {
        WindRota x = six();
        for (int w = 0; w <= 8; w++) {
            x.rota(0, w);
            int all = 0;
            for (int k = 0; k < 6; k++) {
                Due.is("kind " + k + " earns by wind " + w, x.of(k, 4), EARNS_4[k][w]);
                all += EARNS_4[k][w];
            }
            Due.is("all earn by wind " + w, x.now(5), all);
        }
        for (int k = 0; k < 6; k++) {
            x.set(k, 2, 6);
        }
        for (int w = 0; w < 8; w++) {
            x.rota(0, (w + 6) % 8);
            for (int k = 0; k < 6; k++) {
                Due.is("kind " + k + " facing 6, " + w + " on", x.of(k, 4), EARNS_4[k][w]);
            }
        }
    }

    private static void earnsByForce() {
        WindRota x = six();
        x.rota(0, 1);
        for (int f = 0; f < 10; f++) {
            x.force(f);
            for (int k = 0; k < 6; k++) {
                Due.is("kind " + k + " earns by force " + f, x.of(k, 4), EARNS_BY_FORCE[k][f]);
                Due.is("kind " + k + " goes by force " + f, x.of(k, 5), f >= GOES_FROM[k] ? 1 : 0);
            }
        }
        int[] storm = {5, 6, 0, 5, 0, 0};
        x.rota(0, 4);
        for (int k = 0; k < 6; k++) {
            Due.is("kind " + k + " earns by force 9 from behind", x.of(k, 4), storm[k]);
        }
        x.rota(0, 8);
        int[] calm = {0, 1, 0, 0, 0, 0};
        for (int k = 0; k < 6; k++) {
            Due.is("kind " + k + " earns on a calm with force 9", x.of(k, 4), calm[k]);
            Due.is("kind " + k + " goes on a calm with force 9", x.of(k, 5), 0);
        }
    }

    private static void goesByWind() {
        WindRota x = six();
        int[] off = {0, 1, 2, 3, 4, 3, 2, 1};
        for (int w = 0; w < 8; w++) {
            x.rota(0, w);
            Due.is("who goes by wind " + w, x.now(6), off[w] <= 1 ? 18 : 2);
        }
        x.turn(0, 1);
        Due.is("the first, too", x.now(6), 1 + 2 + 16);
        x.turn(0, 0);
        x.force(9);
        Due.is("with force 9", x.now(6), 2 + 4 + 16 + 32);
        x.rota(0, 4);
        Due.is("the captain not by wind 4", x.now(6), 2 + 4 + 32);
        x.rota(0, 7);
        x.set(4, 1, 0);
        Due.is("over the rim a captain is held to go", x.of(4, 5), 1);
        Due.is("and earns", x.of(4, 4), 9);
        x.days(1);
        Due.is("but stays", x.of(4, 1), 0);
    }

    private static void tuesdays() {
        WindRota x = new WindRota();
        x.thing(5, 0);
        int[] week = {3, 8, 3, 3, 3, 3, 0};
        for (int d = 0; d < 15; d++) {
            Due.is("a widow on day " + d, x.of(0, 4), week[d % 7]);
            x.days(1);
        }
        x.rota(1, 8);
        x.days(7);
        Due.is("a widow on a calm of rest 1", x.now(0) % 7 == 1 ? x.of(0, 4) : -1, 5);
    }

    private static void set() {
        WindRota x = six();
        Due.is("set(1, 1, 35)", x.set(1, 1, 35), 14);
        Due.is("set(1, 1, 0)", x.set(1, 1, 0), 35);
        Due.is("set(1, 2, 7)", x.set(1, 2, 7), 0);
        Due.is("set(1, 2, 0)", x.set(1, 2, 0), 7);
        Due.is("set(1, 3, 99999)", x.set(1, 3, 99999), 0);
        Due.is("set(1, 3, 12)", x.set(1, 3, 12), 99999);
        Due.is("of(1, 3)", x.of(1, 3), 12);
        Due.is("another's sum", x.of(2, 3), 0);
    }

    private static void turn() {
        WindRota x = six();
        x.set(1, 3, 77);
        x.set(1, 2, 5);
        Due.is("turn(1, 5)", x.turn(1, 5), 1);
        Due.is("turn(1, 5) again", x.turn(1, 5), 5);
        Due.is("its sum stays", x.of(1, 3), 77);
        Due.is("its cell stays", x.of(1, 1), 14);
        Due.is("its facing stays", x.of(1, 2), 5);
    }

    private static void as() {
        WindRota x = six();
        String[] lines = {"0", "10", "20", "30", "410", "520"};
        for (int k = 0; k < 6; k++) {
            x.set(k, 3, 100 + k);
            for (int as = 0; as < 6; as++) {
                Due.is("as(" + k + ", " + as + ")", x.as(k, as),
                    lines[k].indexOf('0' + as) >= 0 ? 100 + k : Due.KIND);
            }
        }
        Due.is("as(0, 6)", x.as(0, 6), Due.BEYOND);
        Due.is("as(0, -1)", x.as(0, -1), Due.BEYOND);
        Due.is("as(6, 0)", x.as(6, 0), Due.BEYOND);
        Due.is("as(-1, 5)", x.as(-1, 5), Due.BEYOND);
    }

    private static void wrong() {
        WindRota x = six();
        String was = Due.all(x);
        int[] none = {-1, 6, 8, Integer.MAX_VALUE, Integer.MIN_VALUE};
        for (int t : none) {
            Due.is("of(" + t + ", 0)", x.of(t, 0), Due.BEYOND);
            Due.is("set(" + t + ", 1, 0)", x.set(t, 1, 0), Due.BEYOND);
            Due.is("turn(" + t + ", 0)", x.turn(t, 0), Due.BEYOND);
            Due.is("as(" + t + ", 0)", x.as(t, 0), Due.BEYOND);
        }
        int[][] sets = {{0, 0}, {4, 0}, {-1, 0}, {1, -1}, {1, 36}, {2, -1}, {2, 8}, {3, -1}, {3, 100000}};
        for (int[] a : sets) {
            Due.is("set(0, " + a[0] + ", " + a[1] + ")", x.set(0, a[0], a[1]), Due.BEYOND);
        }
        Due.is("of(0, -1)", x.of(0, -1), Due.BEYOND);
        Due.is("of(0, 6)", x.of(0, 6), Due.BEYOND);
        Due.is("turn(0, -1)", x.turn(0, -1), Due.BEYOND);
        Due.is("turn(0, 6)", x.turn(0, 6), Due.BEYOND);
        Due.is("thing(-1, 0)", x.thing(-1, 0), Due.BEYOND);
        Due.is("thing(6, 0)", x.thing(6, 0), Due.BEYOND);
        Due.is("thing(0, -1)", x.thing(0, -1), Due.BEYOND);
        Due.is("thing(0, 36)", x.thing(0, 36), Due.BEYOND);
        Due.holds("all is as it was", was.equals(Due.all(x)));
    }
}
