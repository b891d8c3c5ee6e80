/** Promises 1 to 7: a new object, and the winds. */
public final class WindsTest {
    public static void main(String[] args) {
        aNewObject();
        rota();
        sick();
        force();
        blows();
        blowsWhoeverIsSick();
        lee();
        leeEverywhere();
        Due.end();
    }

    private static void aNewObject() {
        WindRota x = new WindRota();
        for (int what = 0; what < 3; what++) {
            Due.is("new: count(" + what + ")", x.count(what), 0);
        }
        Due.is("new: count(3)", x.count(3), 1);
        Due.is("new: undo()", x.undo(), Due.NONE);
        Due.is("new: tear()", x.tear(), 0);
        int[] now = {0, 0, 4, 0, 0, 0, 0};
        for (int what = 0; what < 7; what++) {
            Due.is("new: now(" + what + ")", x.now(what), now[what]);
        }
        for (int s = 0; s < 4; s++) {
            Due.is("new: write(" + s + ", 0, 1)", x.write(s, 0, 1), Due.MISSING);
        }
        Due.is("new: of(0, 0)", x.of(0, 0), Due.BEYOND);
    }

    private static void rota() {
        WindRota x = new WindRota();
        int[] first = {0, 1, 2, 3, 4, 5, 8};
        for (int d = 0; d < 7; d++) {
            Due.is("rotaOf(" + d + ") at first", x.rotaOf(d), first[d]);
            Due.is("rota(" + d + ", 7)", x.rota(d, 7), first[d]);
            Due.is("rota(" + d + ", 8)", x.rota(d, 8), 7);
            Due.is("rotaOf(" + d + ")", x.rotaOf(d), 8);
            Due.is("rota(" + d + ", 0)", x.rota(d, 0), 8);
        }
        int[][] wrong = {{-1, 0}, {7, 0}, {0, -1}, {0, 9}, {Integer.MIN_VALUE, 0}, {0, Integer.MAX_VALUE}};
        for (int[] a : wrong) {
            Due.is("rota(" + a[0] + ", " + a[1] + ")", x.rota(a[0], a[1]), Due.BEYOND);
        }
        Due.is("rotaOf(0) as it was", x.rotaOf(0), 0);
        Due.is("rotaOf(-1)", x.rotaOf(-1), Due.BEYOND);
        Due.is("rotaOf(7)", x.rotaOf(7), Due.BEYOND);
    }

    private static void sick() {
        WindRota x = new WindRota();
        Due.is("sick(7, 1)", x.sick(7, 1), 0);
        Due.is("sick(7, 1) again", x.sick(7, 1), 1);
        Due.is("sick(0, 1)", x.sick(0, 1), 0);
        Due.is("now(3)", x.now(3), 129);
        Due.is("count(2)", x.count(2), 2);
        Due.is("sick(0, 0)", x.sick(0, 0), 1);
        Due.is("sick(0, 0) again", x.sick(0, 0), 0);
        Due.is("now(3)", x.now(3), 128);
        int[][] wrong = {{-1, 1}, {8, 1}, {0, -1}, {0, 2}, {32, 1}, {0, Integer.MIN_VALUE}};
        for (int[] a : wrong) {
            Due.is("sick(" + a[0] + ", " + a[1] + ")", x.sick(a[0], a[1]), Due.BEYOND);
        }
        Due.is("now(3) as it was", x.now(3), 128);
    }

    private static void force() {
        WindRota x = new WindRota();
        Due.is("force(0)", x.force(0), 4);
        Due.is("force(9)", x.force(9), 0);
        Due.is("force(10)", x.force(10), Due.BEYOND);
        Due.is("force(-1)", x.force(-1), Due.BEYOND);
        Due.is("now(2)", x.now(2), 9);
    }

    private static void blows() {
        WindRota x = new WindRota();
        int[] week = {0, 1, 2, 3, 4, 5, 8};
        for (int d = 0; d < 21; d++) {
            Due.is("blows(" + d + ")", x.blows(d), week[d % 7]);
        }
        Due.is("blows(9999)", x.blows(9999), 3);
        Due.is("blows(10000)", x.blows(10000), Due.BEYOND);
        Due.is("blows(-1)", x.blows(-1), Due.BEYOND);
        x.rota(0, 7);
        x.sick(7, 1);
        Due.is("behind 7 comes 0", x.blows(0), 0);
        x.sick(0, 1);
        x.sick(1, 1);
        Due.is("the next that is well", x.blows(0), 2);
        Due.is("of a sick 1", x.blows(1), 2);
        Due.is("a calm has no cover", x.blows(6), 8);
        for (int w = 0; w < 8; w++) {
            x.sick(w, 1);
        }
        Due.is("all are sick", x.blows(0), 8);
        x.sick(6, 0);
        Due.is("the one before alone is well", x.blows(0), 6);
        Due.is("a calm still", x.blows(6), 8);
    }

    private static void lee() {
        WindRota x = new WindRota();
        int[] from14 = {8, 9, 15, 21, 20, 19, 13, 7};
        int[] from0 = {Due.NONE, Due.NONE, 1, 7, 6, Due.NONE, Due.NONE, Due.NONE};
        int[] from5 = {Due.NONE, Due.NONE, Due.NONE, Due.NONE, 11, 10, 4, Due.NONE};
        int[] from30 = {24, 25, 31, Due.NONE, Due.NONE, Due.NONE, Due.NONE, Due.NONE};
        int[] from35 = {29, Due.NONE, Due.NONE, Due.NONE, Due.NONE, Due.NONE, 34, 28};
        for (int w = 0; w < 8; w++) {
            Due.is("lee(14, " + w + ")", x.lee(14, w), from14[w]);
            Due.is("lee(0, " + w + ")", x.lee(0, w), from0[w]);
            Due.is("lee(5, " + w + ")", x.lee(5, w), from5[w]);
            Due.is("lee(30, " + w + ")", x.lee(30, w), from30[w]);
            Due.is("lee(35, " + w + ")", x.lee(35, w), from35[w]);
        }
        int[][] wrong = {{-1, 0}, {36, 0}, {0, -1}, {14, 8}, {36, 8}};
        for (int[] a : wrong) {
            Due.is("lee(" + a[0] + ", " + a[1] + ")", x.lee(a[0], a[1]), Due.BEYOND);
        }
    }

    private static void blowsWhoeverIsSick() {
        for (int sick = 0; sick < 256; sick++) {
            WindRota x = new WindRota();
            for (int w = 0; w < 8; w++) {
                x.sick(w, sick >> w & 1);
            }
            for (int due = 0; due <= 8; due++) {
                x.rota(3, due);
                int wind = due == 8 || sick == 255 ? 8 : due;
                while (wind != 8 && (sick >> wind & 1) == 1) {
                    wind = wind == 7 ? 0 : wind + 1;
                }
                Due.is("wind " + due + " with " + sick + " sick", x.blows(10), wind);
            }
        }
    }

    private static void leeEverywhere() {
        WindRota x = new WindRota();
        String[] ways = {"N", "NE", "E", "SE", "S", "SW", "W", "NW"};
        for (int cell = 0; cell < 36; cell++) {
            for (int w = 0; w < 8; w++) {
                String way = ways[w];
                boolean isOver = way.contains("N") && cell < 6 || way.contains("S") && cell >= 30
                    || way.contains("W") && cell % 6 == 0 || way.contains("E") && cell % 6 == 5;
                int to = cell + (way.contains("N") ? -6 : 0) + (way.contains("S") ? 6 : 0)
                    + (way.contains("W") ? -1 : 0) + (way.contains("E") ? 1 : 0);
                Due.is("lee(" + cell + ", " + w + ")", x.lee(cell, w), isOver ? Due.NONE : to);
            }
        }
    }
}
