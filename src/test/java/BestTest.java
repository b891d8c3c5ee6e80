/** Promises 19 to 27: what is best. */
public final class BestTest {
    public static void main(String[] args) {
        bribes();
        soonest();
        reach();
        swap();
        missed();
        enough();
        kind();
        facing();
        best();
        wrong();
        Due.end();
    }

    private static WindRota one(int kind, int cell) {
        WindRota x = new WindRota();
        x.thing(kind, cell);
        return x;
    }

    private static WindRota still(WindRota x) {
        for (int d = 0; d < 7; d++) {
            x.rota(d, 8);
        }
        return x;
    }

    private static void bribes() {
        WindRota x = one(1, 14);
        String was = Due.all(x);
        Due.is("it is there", x.bribes(0, 14, 0), 0);
        Due.is("not there yet", x.bribes(0, 8, 0), Due.NONE);
        Due.is("it comes there", x.bribes(0, 8, 1), 0);
        Due.is("on any number of days up to", x.bribes(0, 8, 30), 0);
        Due.is("against the wind", x.bribes(0, 20, 1), 1);
        Due.is("two days against it", x.bribes(0, 26, 2), 2);
        Due.is("too far for two days", x.bribes(0, 32, 2), Due.NONE);
        Due.holds("nothing changed", was.equals(Due.all(x)));
        WindRota y = still(one(1, 0));
        Due.is("in the still each day is bribed", y.bribes(0, 35, 30), 5);
        Due.is("none is needed to stay", y.bribes(0, 0, 30), 0);
        for (int w = 0; w < 8; w++) {
            y.sick(w, 1);
        }
        Due.is("whoever is sick", y.bribes(0, 7, 1), 1);
        y.turn(0, 4);
        Due.is("a captain facing north stays north", y.bribes(0, 7, 30), Due.NONE);
        y.set(0, 2, 3);
        Due.is("facing south-east it goes there", y.bribes(0, 7, 30), 1);
        y.turn(0, 2);
        Due.is("washing stays", y.bribes(0, 7, 30), Due.NONE);
        y.force(9);
        Due.is("in a storm it goes", y.bribes(0, 35, 30), 5);
        y.force(1);
        y.turn(0, 1);
        Due.is("no fisher goes by force 1", y.bribes(0, 7, 30), Due.NONE);
    }

    private static void soonest() {
        WindRota x = one(1, 0);
        Due.is("soonest(0, 0, 0)", x.soonest(0, 0, 0), 0);
        Due.is("soonest(0, 35, 30)", x.soonest(0, 35, 30), 5);
        Due.is("soonest(0, 35, 4)", x.soonest(0, 35, 4), 5);
        Due.is("soonest(0, 35, 3)", x.soonest(0, 35, 3) > 5 ? 1 : 0, 1);
        Due.is("soonest(0, 35, 1)", x.soonest(0, 35, 1), 12);
        WindRota y = still(one(1, 0));
        Due.is("too few", y.soonest(0, 35, 4), Due.NONE);
        Due.is("just enough", y.soonest(0, 35, 5), 5);
        y.rota(6, 2);
        Due.is("one step each week: day 28 is the fifth", y.soonest(0, 4, 0), 28);
        Due.is("behind 30 days", y.soonest(0, 5, 0), Due.NONE);
        y.days(5);
        Due.is("on the 30th day", y.soonest(0, 5, 0), 30);
    }

    private static void reach() {
        WindRota x = one(1, 14);
        long round = 1L << 7 | 1L << 8 | 1L << 9 | 1L << 13 | 1L << 15 | 1L << 19 | 1L << 20 | 1L << 21;
        Due.is("reach(0, 0)", x.reach(0, 0), 1L << 14);
        Due.is("reach(0, 1): it must go", x.reach(0, 1), round);
        Due.is("reach(0, 30)", x.reach(0, 30), (1L << 36) - 1);
        x.days(6);
        x.set(0, 1, 14);
        Due.is("day 6 is a calm, day 7 isn't", x.reach(0, 1), round | 1L << 14);
        x.days(2);
        x.set(0, 1, 14);
        x.turn(0, 4);
        Due.is("a captain lies to by a wind against it", x.reach(0, 2), 31 + (7 << 7) + (1 << 14));
        x.turn(0, 1);
        still(x);
        Due.is("in the still it may stay", x.reach(0, 1), round | 1L << 14);
        x.turn(0, 0);
        Due.is("a mill stays", x.reach(0, 30), 1L << 14);
        x.set(0, 1, 35);
        Due.is("a high bit", x.reach(0, 3), 1L << 35);
    }

    private static void swap() {
        WindRota x = one(0, 0);
        Due.is("within a whole week no swap helps a mill", x.swap(7), Due.NONE);
        Due.is("its best day is the first already", x.swap(1), Due.NONE);
        x.set(0, 2, 5);
        Due.is("on one day: 5 comes to the first", x.swap(1), 5);
        Due.is("on two days: better to the second", x.swap(2), 15);
        x.set(0, 2, 3);
        x.days(1);
        Due.is("on a Tuesday", x.swap(1), 13);
        WindRota y = one(5, 0);
        y.rota(1, 8);
        Due.is("a widow earns 5 on a calm Tuesday as well", y.swap(7), Due.NONE);
        WindRota z = one(2, 0);
        z.rota(0, 8);
        Due.is("of several the least", z.swap(1), 1);
        String was = Due.all(z);
        z.swap(30);
        Due.holds("nothing changed", was.equals(Due.all(z)));
    }

    private static void missed() {
        WindRota x = one(0, 0);
        Due.is("missed(7)", x.missed(7), 0);
        x.set(0, 2, 3);
        Due.is("missed(7) facing 3", x.missed(7) >= 0 ? 1 : 0, 1);
        Due.is("on one day the first", x.missed(1), 1);
        x.sick(0, 1);
        Due.is("sick ones aren't asked", x.missed(1), 2);
        for (int w = 0; w < 7; w++) {
            x.sick(w, 1);
        }
        Due.is("the last that is well", x.missed(30), 7);
        x.sick(7, 1);
        Due.is("all are sick", x.missed(30), Due.NONE);
        Due.is("of none", new WindRota().missed(30), 0);
    }

    private static void enough() {
        WindRota x = one(0, 0);
        Due.is("enough(1, 0)", x.enough(1, 0), 0);
        Due.is("enough(1, 1)", x.enough(1, 1), 1);
        Due.is("enough(1, 9)", x.enough(1, 9), 9);
        Due.is("enough(1, 10)", x.enough(1, 10), Due.NONE);
        Due.is("enough(1, 99999)", x.enough(1, 99999), Due.NONE);
        Due.is("enough(1, 100000)", x.enough(1, 100000), Due.BEYOND);
        Due.is("enough(1, -1)", x.enough(1, -1), Due.BEYOND);
        Due.is("force as it was", x.now(2), 4);
        WindRota y = one(2, 0);
        Due.is("more isn't always more", y.enough(1, 3), 1);
        WindRota z = one(1, 0);
        z.set(0, 3, 99996);
        Due.is("a full sum gains no more", z.enough(30, 4), Due.NONE);
        Due.is("what is left", z.enough(30, 3), 0);
    }

    private static void kind() {
        WindRota x = one(0, 0);
        Due.is("on the first day a kite", x.kind(0, 1), 3);
        Due.is("in a week a widow", x.kind(0, 7), 5);
        Due.is("as a fisher the same", x.turn(0, 1) == 0 ? x.kind(0, 7) : -1, 5);
        still(x);
        Due.is("in the still a fisher", x.kind(0, 1), 1);
        x.set(0, 3, 99999);
        Due.is("of several the least", x.kind(0, 30), 0);
        Due.is("its kind as it was", x.of(0, 0), 1);
    }

    private static void facing() {
        WindRota x = one(3, 0);
        x.days(5);
        Due.is("facing(0, 1)", x.facing(0, 1), 5);
        still(x);
        Due.is("of several the least", x.facing(0, 30), 0);
        x.rota(6, 7);
        x.days(1);
        Due.is("facing(0, 30)", x.facing(0, 30), 7);
        Due.is("its facing as it was", x.of(0, 2), 0);
    }

    private static void best() {
        WindRota x = one(0, 0);
        Due.is("best(0, 1)", x.best(0, 1), 0);
        x.set(0, 2, 6);
        Due.is("best(0, 1) facing 6", x.best(0, 1), 6);
        Due.is("best(3, 3): that day doesn't come", x.best(3, 3), 0);
        Due.is("best(3, 4)", x.best(3, 4), 6);
        x.sick(6, 1);
        x.sick(5, 1);
        Due.is("with 5 and 6 sick, 7 stands in: 5 is the least", x.best(0, 1), 5);
        WindRota y = one(0, 0);
        for (int w = 0; w < 8; w++) {
            y.sick(w, 1);
        }
        Due.is("all are sick", y.best(0, 30), 0);
        Due.is("rota as it was", x.rotaOf(0), 0);
        Due.is("best(6, 7)", one(0, 0).best(6, 7), 0);
    }

    private static void wrong() {
        WindRota x = one(1, 14);
        String was = Due.all(x);
        int[][] three = {{-1, 0, 0}, {1, 0, 0}, {0, -1, 0}, {0, 36, 0}, {0, 0, -1}, {0, 0, 31}};
        for (int[] a : three) {
            Due.is("bribes(" + a[0] + ", " + a[1] + ", " + a[2] + ")", x.bribes(a[0], a[1], a[2]), Due.BEYOND);
            Due.is("soonest(" + a[0] + ", " + a[1] + ", " + a[2] + ")", x.soonest(a[0], a[1], a[2]), Due.BEYOND);
        }
        Due.is("reach(1, 0)", x.reach(1, 0), Due.BEYOND);
        Due.is("reach(-1, 0)", x.reach(-1, 0), Due.BEYOND);
        Due.is("reach(0, -1)", x.reach(0, -1), Due.BEYOND);
        Due.is("reach(0, 31)", x.reach(0, 31), Due.BEYOND);
        int[] spans = {0, 31, -1, Integer.MIN_VALUE, Integer.MAX_VALUE};
        for (int n : spans) {
            Due.is("swap(" + n + ")", x.swap(n), Due.BEYOND);
            Due.is("missed(" + n + ")", x.missed(n), Due.BEYOND);
            Due.is("enough(" + n + ", 0)", x.enough(n, 0), Due.BEYOND);
            Due.is("kind(0, " + n + ")", x.kind(0, n), Due.BEYOND);
            Due.is("facing(0, " + n + ")", x.facing(0, n), Due.BEYOND);
            Due.is("best(0, " + n + ")", x.best(0, n), Due.BEYOND);
        }
        for (int t = -1; t < 2; t += 2) {
            Due.is("kind(" + t + ", 1)", x.kind(t, 1), Due.BEYOND);
            Due.is("facing(" + t + ", 1)", x.facing(t, 1), Due.BEYOND);
        }
        Due.is("best(-1, 1)", x.best(-1, 1), Due.BEYOND);
        Due.is("best(7, 1)", x.best(7, 1), Due.BEYOND);
        Due.holds("all is as it was", was.equals(Due.all(x)));
    }
}
