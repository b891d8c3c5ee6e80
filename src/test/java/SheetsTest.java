/** Promises 31 to 36: sheets. */
public final class SheetsTest {
    public static void main(String[] args) {
        sheet();
        write();
        copy();
        lays();
        book();
        read();
        Due.end();
    }

    private static void sheet() {
        WindRota x = new WindRota();
        Due.is("sheet(0, 8, 40)", x.sheet(0, 8, 40), 40);
        Due.is("sheet(1, 16, 1)", x.sheet(1, 16, 1), 1);
        Due.is("sheet(2, 64, 0)", x.sheet(2, 64, 0), 0);
        Due.is("one of no numbers isn't missing", x.write(2, 0, 1), Due.BEYOND);
        Due.is("sheet(3, 0, 5)", x.sheet(3, 0, 5), 0);
        x.write(0, 39, 7);
        Due.is("sheet(0, 8, 40) again", x.sheet(0, 8, 40), 40);
        Due.is("all are 0 again", x.write(0, 39, 7), 0);
        x.write(0, 0, 7);
        x.sheet(0, 8, 3);
        Due.is("the first, too", x.write(0, 0, 0), 0);
        x.sheet(0, 8, 40);
        Due.is("also behind a shorter one", x.write(0, 39, 0), 0);
        int[][] beyond = {{-1, 8, 1}, {4, 8, 1}, {0, 1, 1}, {0, -8, 1}, {0, 32, 1}, {0, 8, 41}, {0, 0, 41},
            {4, 8, -1}, {0, 7, -1}, {0, 8, Integer.MAX_VALUE}};
        for (int[] a : beyond) {
            Due.is("sheet(" + a[0] + ", " + a[1] + ", " + a[2] + ")", x.sheet(a[0], a[1], a[2]), Due.BEYOND);
        }
        Due.is("sheet(0, 8, -1)", x.sheet(0, 8, -1), Due.SIZE);
        Due.is("sheet(0, 0, -1)", x.sheet(0, 0, -1), Due.SIZE);
        Due.is("sheet(0, 64, least)", x.sheet(0, 64, Integer.MIN_VALUE), Due.SIZE);
        Due.is("it is as it was", x.write(0, 39, 1), 0);
        Due.is("sheet(0, 0, 40)", x.sheet(0, 0, 40), 0);
        Due.is("it is missing", x.write(0, 0, 1), Due.MISSING);
    }

    private static void write() {
        WindRota x = new WindRota();
        x.sheet(0, 8, 2);
        x.sheet(1, 16, 2);
        x.sheet(2, 64, 2);
        long[] vs = {127, 128, 255, 256, -1, -129, 32767, 32768, 65536, Long.MIN_VALUE, Long.MAX_VALUE, 99999};
        for (long v : vs) {
            x.write(0, 1, v);
            x.write(1, 1, v);
            x.write(2, 1, v);
            Due.is("8 bits of " + v, x.write(0, 1, 0), (byte) v);
            Due.is("16 bits of " + v, x.write(1, 1, 0), (short) v);
            Due.is("64 bits of " + v, x.write(2, 1, 0), v);
        }
        Due.is("the one beside it", x.write(0, 0, 5), 0);
        Due.is("write(0, 2, 0)", x.write(0, 2, 0), Due.BEYOND);
        Due.is("write(0, -1, 0)", x.write(0, -1, 0), Due.BEYOND);
        Due.is("write(4, 0, 0)", x.write(4, 0, 0), Due.BEYOND);
        Due.is("write(-1, 0, 0)", x.write(-1, 0, 0), Due.BEYOND);
        Due.is("write(3, -1, 0)", x.write(3, -1, 0), Due.MISSING);
    }

    private static void copy() {
        WindRota x = new WindRota();
        x.sheet(0, 8, 6);
        x.sheet(1, 8, 4);
        x.sheet(2, 16, 6);
        for (int i = 0; i < 6; i++) {
            x.write(0, i, i + 1);
        }
        Due.is("copy(0, 2, 1, 0, 3)", x.copy(0, 2, 1, 0, 3), 3);
        same(x, 1, "3 4 5 0 ");
        Due.is("onto itself, forward", x.copy(0, 0, 0, 1, 5), 5);
        same(x, 0, "1 1 2 3 4 5 ");
        Due.is("onto itself, back", x.copy(0, 1, 0, 0, 5), 5);
        same(x, 0, "1 2 3 4 5 5 ");
        Due.is("none at the end", x.copy(0, 6, 1, 4, 0), 0);
        Due.is("all of a sheet", x.copy(1, 0, 0, 0, 4), 4);
        same(x, 0, "3 4 5 0 5 5 ");
        Due.is("no such sheet first", x.copy(4, 0, 3, 0, 1), Due.BEYOND);
        Due.is("no such other sheet", x.copy(3, 0, -1, 0, 1), Due.BEYOND);
        Due.is("no such other sheet", x.copy(3, 0, 4, 0, 1), Due.BEYOND);
        Due.is("no such sheet", x.copy(-1, 0, 3, 0, 1), Due.BEYOND);
        Due.is("missing before bits", x.copy(3, 0, 2, 0, 1), Due.MISSING);
        Due.is("the other is missing", x.copy(2, -1, 3, 0, 1), Due.MISSING);
        Due.is("bits before places", x.copy(0, -1, 2, 0, 99), Due.KIND);
        Due.is("even for none", x.copy(0, 0, 2, 0, 0), Due.KIND);
        int most = Integer.MAX_VALUE;
        int[][] beyond = {{-1, 0, 1}, {0, -1, 1}, {0, 0, -1}, {0, 0, 5}, {3, 0, 4}, {6, 0, 1}, {7, 0, 0}, {0, 5, 0},
            {1, 1, most}, {most, 0, 1}, {0, most, 1}, {most, most, most}, {1, 4, 1}, {0, 0, Integer.MIN_VALUE}};
        for (int[] a : beyond) {
            Due.is("copy(0, " + a[0] + ", 1, " + a[1] + ", " + a[2] + ")", x.copy(0, a[0], 1, a[1], a[2]), Due.BEYOND);
        }
        same(x, 0, "3 4 5 0 5 5 ");
        same(x, 1, "3 4 5 0 ");
    }

    private static void same(WindRota x, int s, String due) {
        String got = Due.numbers(x, s);
        Due.holds("sheet " + s + " is '" + got + "', due is '" + due + "'", got.equals(due));
    }

    private static void lays() {
        WindRota x = new WindRota();
        x.sheet(0, 64, 9);
        long[] row = {8, 9, 7, -1, 6, 1L << 32, 0, 3, 3};
        for (int i = 0; i < 9; i++) {
            x.write(0, i, row[i]);
        }
        Due.is("lays(0)", x.lays(0), 4);
        int[] week = {8, 1, 7, 3, 6, 5, 0};
        for (int d = 0; d < 7; d++) {
            Due.is("rotaOf(" + d + ")", x.rotaOf(d), week[d]);
        }
        x.sheet(1, 8, 2);
        Due.is("of a short one", x.lays(1), 2);
        Due.is("rotaOf(0)", x.rotaOf(0), 0);
        Due.is("rotaOf(2) stays", x.rotaOf(2), 7);
        x.sheet(1, 8, 0);
        Due.is("of none", x.lays(1), 0);
        Due.is("lays(2)", x.lays(2), Due.MISSING);
        Due.is("lays(3)", x.lays(3), Due.MISSING);
        Due.is("lays(4)", x.lays(4), Due.BEYOND);
        Due.is("lays(-1)", x.lays(-1), Due.BEYOND);
    }

    private static void book() {
        WindRota x = new WindRota();
        x.thing(1, 14);
        x.set(0, 3, 100);
        x.sheet(0, 64, 9);
        String was = Due.all(x);
        Due.is("book(0, 0)", x.book(0, 0), 9);
        same(x, 0, "100 105 109 112 114 115 117 118 123 ");
        Due.holds("nothing else changed", was.equals(Due.all(x)));
        x.set(0, 3, 126);
        x.sheet(1, 8, 2);
        x.book(1, 0);
        same(x, 1, "126 -125 ");
        x.set(0, 3, 99997);
        x.sheet(2, 16, 2);
        x.book(2, 0);
        same(x, 2, (short) 99997 + " " + (short) 99999 + " ");
        x.sheet(2, 16, 0);
        Due.is("of no numbers", x.book(2, 0), 0);
        Due.is("no such sheet", x.book(4, 1), Due.BEYOND);
        Due.is("no such sheet", x.book(-1, 0), Due.BEYOND);
        Due.is("missing before thing", x.book(3, 1), Due.MISSING);
        Due.is("no such thing", x.book(0, 1), Due.BEYOND);
        Due.is("no such thing", x.book(0, -1), Due.BEYOND);
    }

    private static void read() {
        WindRota x = new WindRota();
        x.thing(3, 14);
        x.set(0, 2, 2);
        x.sheet(0, 16, 8);
        x.book(0, 0);
        String was = Due.all(x);
        Due.is("a kite facing 2 alone earns so", x.read(0, 0), 1);
        Due.holds("nothing changed", was.equals(Due.all(x)));
        x.turn(0, 5);
        Due.is("whatever it is now", x.read(0, 0), 1);
        x.book(0, 0);
        Due.is("a widow faces anywhere", x.read(0, 0), 8);
        x.sheet(0, 16, 1);
        Due.is("a first number that is its sum", x.read(0, 0), 48);
        x.write(0, 0, 1);
        Due.is("a first number that isn't", x.read(0, 0), 0);
        x.sheet(0, 16, 0);
        Due.is("no numbers", x.read(0, 0), 48);
        x.set(0, 3, 99999);
        x.sheet(1, 64, 3);
        x.book(1, 0);
        Due.is("a full sum stays", x.read(1, 0), 48);
        x.sheet(1, 16, 3);
        x.book(1, 0);
        Due.is("cut numbers are no sums", x.read(1, 0), 0);
        Due.is("no such sheet", x.read(4, 1), Due.BEYOND);
        Due.is("no such sheet", x.read(-1, 0), Due.BEYOND);
        Due.is("missing before thing", x.read(3, 1), Due.MISSING);
        Due.is("no such thing", x.read(0, 1), Due.BEYOND);
        Due.is("no such thing", x.read(0, -1), Due.BEYOND);
    }
}
