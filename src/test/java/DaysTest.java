/** Promises 13 to 18: days that go, and days told ahead. */
public final class DaysTest {
    public static void main(String[] args) {
        aWeek();
        bribe();
        fullSums();
        lastDays();
        ahead();
        comes();
        sixtyDays();
        meet();
        wrong();
        Due.end();
    }

    private static void aWeek() {
        WindRota x = new WindRota();
        x.thing(1, 14);
        x.thing(4, 14);
        x.thing(2, 14);
        WindRota ahead = new WindRota();
        ahead.thing(1, 14);
        int[] fishers = {8, 3, 4, 11, 17, 22, 22};
        int[] captains = {8, 3, 3, 3, 3, 3, 3};
        int[] sums = {5 + 5 + 3, 9 + 9 + 6, 12 + 9 + 9, 14 + 9 + 12, 15 + 9 + 15, 17 + 9 + 18, 18 + 9 + 18};
        for (int d = 0; d < 7; d++) {
            Due.is("on(0, " + (d + 1) + ", 0) told on day 0", ahead.on(0, d + 1, 0), fishers[d]);
            Due.is("days(1) on day " + d, x.days(1), sums[d]);
            Due.is("the fisher after day " + d, x.of(0, 1), fishers[d]);
            Due.is("the captain after day " + d, x.of(1, 1), captains[d]);
            Due.is("the washing after day " + d, x.of(2, 1), 14);
            Due.is("now(0)", x.now(0), d + 1);
            Due.is("now(4)", x.now(4), sums[d]);
        }
        Due.is("now(1) on Monday", x.now(1), 0);
        WindRota y = new WindRota();
        y.thing(1, 14);
        y.thing(4, 14);
        y.thing(2, 14);
        Due.is("days(7) at once", y.days(7), sums[6]);
        Due.holds("seven days are one by one", Due.all(x).equals(Due.all(y)));
    }

    private static void bribe() {
        WindRota x = new WindRota();
        x.thing(1, 14);
        x.thing(5, 0);
        x.sick(2, 1);
        Due.is("bribe(2) though it is sick", x.bribe(2), 3 + 3);
        Due.is("the fisher went with it", x.of(0, 1), 15);
        Due.is("the rota is as it was", x.rotaOf(0), 0);
        Due.is("a day went", x.now(0), 1);
        Due.is("it is sick still", x.now(3), 4);
        x.bribe(4);
        Due.is("a bribed Tuesday is the widow's", x.of(1, 3), 3 + 8);
        x.days(4);
        Due.is("a calm comes", x.now(1), 8);
        Due.is("bribe(0) on a calm", x.bribe(0) > 0 ? 1 : 0, 1);
        x.set(0, 1, 14);
        x.bribe(7);
        Due.is("bribe(7)", x.of(0, 1), 7);
        Due.is("bribe(-1)", x.bribe(-1), Due.BEYOND);
        Due.is("bribe(8)", x.bribe(8), Due.BEYOND);
        Due.is("now(0)", x.now(0), 8);
        Due.is("days(1) of none", new WindRota().days(1), 0);
        Due.is("bribe(0) of none", new WindRota().bribe(0), 0);
    }

    private static void fullSums() {
        WindRota x = new WindRota();
        x.thing(1, 14);
        x.thing(0, 14);
        x.set(0, 3, 99995);
        Due.is("on(0, 1, 1): five more would be too many", x.on(0, 2, 1), 99999);
        Due.is("days(1)", x.days(1), 99999 + 4);
        Due.is("of(0, 3)", x.of(0, 3), 99999);
    }

    private static void lastDays() {
        WindRota x = new WindRota();
        x.thing(5, 0);
        x.thing(1, 14);
        for (int i = 0; i < 166; i++) {
            x.days(60);
        }
        Due.is("day 9960", x.now(0), 9960);
        Due.is("days(40)", x.days(40), Due.STATE);
        Due.is("days(60)", x.days(60), Due.STATE);
        Due.is("days(61)", x.days(61), Due.BEYOND);
        x.days(39);
        Due.is("day 9999", x.now(0), 9999);
        Due.is("days(1)", x.days(1), Due.STATE);
        Due.is("days(0)", x.days(0), Due.BEYOND);
        Due.is("bribe(0)", x.bribe(0), Due.STATE);
        Due.is("bribe(8)", x.bribe(8), Due.BEYOND);
        Due.is("day 9999 still", x.now(0), 9999);
        Due.is("wind of the last day", x.now(1), 3);
        // What is told ahead may lie behind the last day: rests 3 4 5 6 0 1.
        int sum = x.of(0, 3);
        Due.is("on(0, 6, 1)", x.on(0, 6, 1), sum + 3 + 3 + 3 + 0 + 3 + 8);
        x.set(1, 1, 14);
        Due.is("on(1, 2, 0)", x.on(1, 2, 0), 27);
        Due.is("comes(1, 27)", x.comes(1, 27), 2);
        Due.is("bribes(1, 27, 2)", x.bribes(1, 27, 2), 0);
        Due.is("reach(1, 0)", x.reach(1, 0), 1L << 14);
        Due.is("kind(0, 30)", x.kind(0, 30) >= 0 ? 1 : 0, 1);
    }

    private static void ahead() {
        WindRota x = new WindRota();
        x.thing(1, 14);
        x.set(0, 3, 10);
        String was = Due.all(x);
        Due.is("on(0, 0, 0)", x.on(0, 0, 0), 14);
        Due.is("on(0, 0, 1)", x.on(0, 0, 1), 10);
        Due.is("on(0, 60, 1)", x.on(0, 60, 1), 10 + 8 * 18 + 5 + 4 + 3 + 2);
        Due.holds("nothing changed", was.equals(Due.all(x)));
        int cell = x.on(0, 60, 0);
        x.days(60);
        Due.is("it is there then", x.of(0, 1), cell);
    }

    private static void comes() {
        WindRota x = new WindRota();
        x.thing(1, 14);
        Due.is("comes(0, 14)", x.comes(0, 14), 0);
        Due.is("comes(0, 22)", x.comes(0, 22), 6);
        Due.is("comes(0, 35)", x.comes(0, 35), Due.NONE);
        WindRota y = new WindRota();
        for (int d = 0; d < 7; d++) {
            y.rota(d, 8);
        }
        y.thing(1, 30);
        y.rota(4, 0);
        Due.is("north on one day of seven alone", y.comes(0, 0), 33);
        y.days(1);
        y.set(0, 1, 30);
        Due.is("comes(0, 0)", y.comes(0, 0), 32);
        Due.is("comes(0, 36)", y.comes(0, 36), Due.BEYOND);
        Due.is("comes(0, -1)", y.comes(0, -1), Due.BEYOND);
        Due.is("comes(1, 0)", y.comes(1, 0), Due.BEYOND);
        Due.is("comes(-1, 0)", y.comes(-1, 0), Due.BEYOND);
    }

    /** Five weeks along the second row, then down the rim: it comes to the last cell on the 60th day just. */
    private static void sixtyDays() {
        WindRota x = new WindRota();
        for (int d = 0; d < 7; d++) {
            x.rota(d, 8);
        }
        x.rota(0, 1);
        x.rota(3, 4);
        x.thing(1, 6);
        x.thing(0, 35);
        Due.is("on(0, 59, 0)", x.on(0, 59, 0), 29);
        Due.is("on(0, 60, 0)", x.on(0, 60, 0), 35);
        Due.is("comes(0, 35)", x.comes(0, 35), 60);
        Due.is("meet(0, 1)", x.meet(0, 1), 60);
        x.rota(3, 8);
        x.rota(4, 4);
        Due.is("comes(0, 35) a day later", x.comes(0, 35), Due.NONE);
        Due.is("meet(0, 1) a day later", x.meet(0, 1), Due.NONE);
    }

    private static void meet() {
        WindRota x = new WindRota();
        x.thing(1, 14);
        x.thing(0, 4);
        x.thing(0, 35);
        x.thing(1, 15);
        Due.is("meet(0, 1)", x.meet(0, 1), 3);
        Due.is("meet(1, 0)", x.meet(1, 0), 3);
        Due.is("meet(0, 2)", x.meet(0, 2), Due.NONE);
        Due.is("meet(0, 3)", x.meet(0, 3), Due.NONE);
        Due.is("meet(1, 1)", x.meet(1, 1), Due.BEYOND);
        Due.is("meet(0, 4)", x.meet(0, 4), Due.BEYOND);
        Due.is("meet(4, 0)", x.meet(4, 0), Due.BEYOND);
        Due.is("meet(-1, 0)", x.meet(-1, 0), Due.BEYOND);
        for (int d = 0; d < 7; d++) {
            x.rota(d, 2);
        }
        Due.is("two that go alike meet at the rim", x.meet(0, 3), 3);
    }

    private static void wrong() {
        WindRota x = new WindRota();
        x.thing(1, 14);
        String was = Due.all(x);
        int[] spans = {0, -1, 61, Integer.MAX_VALUE, Integer.MIN_VALUE};
        for (int n : spans) {
            Due.is("days(" + n + ")", x.days(n), Due.BEYOND);
        }
        int[][] ons = {{-1, 0, 0}, {1, 0, 0}, {0, -1, 0}, {0, 61, 0}, {0, 0, -1}, {0, 0, 2}};
        for (int[] a : ons) {
            Due.is("on(" + a[0] + ", " + a[1] + ", " + a[2] + ")", x.on(a[0], a[1], a[2]), Due.BEYOND);
        }
        Due.is("now(-1)", x.now(-1), Due.BEYOND);
        Due.is("now(7)", x.now(7), Due.BEYOND);
        Due.holds("all is as it was", was.equals(Due.all(x)));
    }
}
