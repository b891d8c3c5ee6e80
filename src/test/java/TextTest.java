/** Promises 28 to 30: the tape, and the text of a sea. */
public final class TextTest {
    public static void main(String[] args) {
        feed();
        wipe();
        items();
        blanks();
        faults();
        ninth();
        nothingOfAFault();
        Due.end();
    }

    private static void feed() {
        WindRota x = new WindRota();
        Due.is("feed, 4 bytes", x.feed('f' << 24 | 'o' << 16 | 'r' << 8 | 'c', 4), 4);
        Due.is("feed, 2 lowest bytes", x.feed(0x7f7f0000 | 'e' << 8 | ' ', 2), 6);
        Due.is("feed, 1 lowest byte", x.feed(0xffffff00 | '7', 1), 7);
        Due.is("sea()", x.sea(), 1);
        Due.is("force", x.now(2), 7);
        Due.is("the tape is empty then", x.count(1), 0);
        int[] wrong = {0, 5, -1, Integer.MIN_VALUE, Integer.MAX_VALUE};
        for (int n : wrong) {
            Due.is("feed(0, " + n + ")", x.feed(0, n), Due.BEYOND);
        }
        for (int i = 1; i <= 29; i++) {
            Due.is("feed up to " + 4 * i, x.feed(0x20202020, 4), 4 * i);
        }
        Due.is("feed up to 119", x.feed(0x202020, 3), 119);
        Due.is("two more are too many", x.feed(0, 2), Due.FULL);
        Due.is("how many there are", x.count(1), 119);
        Due.is("one more fits", x.feed(0, 1), 120);
        Due.is("none fits", x.feed(0, 1), Due.FULL);
        Due.is("n is asked first", x.feed(0, 5), Due.BEYOND);
        Due.is("its fault is the byte that begins no token", x.sea(), -120);
    }

    private static void wipe() {
        WindRota x = new WindRota();
        Due.is("wipe() of none", x.wipe(), 0);
        Due.feed(x, "force 9");
        Due.is("wipe()", x.wipe(), 7);
        Due.is("count(1)", x.count(1), 0);
        Due.is("sea() of none", x.sea(), -1);
        Due.is("force as it was", x.now(2), 4);
    }

    private static void items() {
        WindRota x = new WindRota();
        Due.is("all kinds", Due.sea(x, "mill at 0;fisher at 35 facing 7;washing at 1;kite at 2 facing 0;captain at 3;widow at 4"), 6);
        int[] cells = {0, 35, 1, 2, 3, 4};
        for (int t = 0; t < 6; t++) {
            Due.is("kind of " + t, x.of(t, 0), t);
            Due.is("cell of " + t, x.of(t, 1), cells[t]);
            Due.is("facing of " + t, x.of(t, 2), t == 1 ? 7 : 0);
            Due.is("sum of " + t, x.of(t, 3), 0);
        }
        Due.is("rota of one", Due.sea(x, "rota 8"), 1);
        Due.is("its first day", x.rotaOf(0), 8);
        Due.is("its second stays", x.rotaOf(1), 1);
        Due.is("rota of seven", Due.sea(x, "rota 0 8 7 6 5 4 3"), 1);
        int[] week = {0, 8, 7, 6, 5, 4, 3};
        for (int d = 0; d < 7; d++) {
            Due.is("rotaOf(" + d + ")", x.rotaOf(d), week[d]);
        }
        Due.is("sick and well", Due.sea(x, "sick 7;sick 0;sick 3;well 3;well 5;sick 7"), 6);
        Due.is("now(3)", x.now(3), 129);
        Due.is("force", Due.sea(x, "force 9;force 0"), 2);
        Due.is("the latest counts", x.now(2), 0);
        Due.is("two rotas", Due.sea(x, "rota 1 1 1;rota 2"), 2);
        Due.is("rotaOf(0)", x.rotaOf(0), 2);
        Due.is("rotaOf(1)", x.rotaOf(1), 1);
        Due.is("no finding in all this", x.status(-1), 0);
    }

    private static void blanks() {
        WindRota x = new WindRota();
        Due.is("as few as can be", Due.sea(x, "mill at5facing3;force007"), 2);
        Due.is("cell", x.of(0, 1), 5);
        Due.is("facing", x.of(0, 2), 3);
        Due.is("force", x.now(2), 7);
        Due.is("as many as one likes", Due.sea(x, "  kite   at  6  ;  sick   2  "), 2);
        Due.is("a number that two would be", Due.sea(x, "rota 12"), -6);
        Due.is("a number of many digits, small", Due.sea(x, "force 00000000000000000004"), 1);
        Due.is("a number of many digits, large", Due.sea(x, "force 4294967296"), -7);
        Due.is("another one", Due.sea(x, "force 18446744073709551616"), -7);
    }

    private static void faults() {
        String[] texts = {"", "   ", ";", "mill", "mill ", "mill at", "mill at 3 facing", "mill at 3;", "mill at 3; ",
            "rota", "rota ;", "rota 1 2;", "sick", "well ", "force",
            "mills at 3", "mil at 3", "kill at 3", "millz at 3", "mill at 3 facinz 1", "mill az 3", "a", "z", "Mill at 3", "3", "at 3", "facing 3",
            "mill 3", "mill at at 3", "mill at x", "mill at 36", "mill at 1000", "mill at -1",
            "mill at 3 4", "mill at 3 at 4", "mill at 3 facing 8", "mill at 3 facing ;", "mill at 3 facing 1 facing 1",
            "mill at 3 kite at 4", "mill at 3;;kite at 4", "mill at 3,kite at 4",
            "rota x", "rota 9", "rota 1 9", "rota 1 2 3 4 5 6 7 8", "rota 1 2 3 4 5 6 7 9", "rota 1 sick 2",
            "sick 8", "sick 1 2", "well x", "well 8", "force 10", "force 1 force 2", "force\t1", "force 1\n",
            "force \u00b2", "force 1;\u0000", "force 1a", "force 1;force", "force 1;force 2;sicker 1"};
        int[] places = {0, 3, 0, 4, 5, 7, 16, 10, 11,
            4, 5, 9, 4, 5, 5,
            0, 0, 0, 0, 10, 5, 0, 0, 0, 0, 0, 0,
            5, 8, 8, 8, 8, 8,
            10, 10, 17, 17, 19,
            10, 10, 9,
            5, 5, 7, 19, 19, 7,
            5, 7, 5, 5, 6, 8, 5, 7,
            6, 8, 7, 13, 16};
        Due.is("as many places as texts", places.length, texts.length);
        String was = Due.all(new WindRota());
        for (int i = 0; i < texts.length; i++) {
            WindRota x = new WindRota();
            Due.is("sea() of '" + texts[i] + "'", Due.sea(x, texts[i]), -1 - places[i]);
            Due.holds("nothing came of '" + texts[i] + "'", was.equals(Due.all(x)));
            Due.is("a fault is no finding", x.status(-1), 0);
        }
    }

    private static void ninth() {
        WindRota x = new WindRota();
        for (int t = 0; t < 7; t++) {
            x.thing(0, t);
        }
        Due.is("a 9th within one text", Due.sea(x, "kite at 1;kite at 2"), -11);
        Due.is("none came", x.count(0), 7);
        Due.is("an 8th", Due.sea(x, "kite at 1"), 1);
        Due.is("a 9th", Due.sea(x, " kite at 1"), -2);
        Due.is("a 9th that isn't well told", Due.sea(x, "force 1;widow"), -9);
        Due.is("other items come", Due.sea(x, "force 1"), 1);
        Due.is("eight", x.count(0), 8);
    }

    private static void nothingOfAFault() {
        WindRota x = new WindRota();
        x.thing(1, 14);
        x.image();
        String was = Due.all(x);
        Due.is("a fault at the end", Due.sea(x, "mill at 1;rota 8 8 8;sick 1;force 9;kite at 2 facing 1;well"), -60);
        Due.holds("nothing came of it", was.equals(Due.all(x)));
        Due.is("the tape is empty", x.count(1), 0);
    }
}
