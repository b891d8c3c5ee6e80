/** Promises 37 to 41: images, counts and the status. */
public final class ImagesTest {
    public static void main(String[] args) {
        images();
        latest();
        placesUsedAgain();
        count();
        status();
        Due.end();
    }

    private static WindRota some() {
        WindRota x = new WindRota();
        x.thing(1, 14);
        x.thing(5, 3);
        x.set(0, 2, 3);
        x.sick(4, 1);
        x.rota(2, 6);
        x.force(5);
        x.days(9);
        return x;
    }

    private static void images() {
        WindRota x = some();
        String was = Due.all(x);
        x.sheet(0, 8, 3);
        Due.is("image()", x.image(), 1);
        x.thing(0, 0);
        x.set(0, 1, 0);
        x.set(0, 2, 1);
        x.set(0, 3, 1);
        x.turn(0, 2);
        x.sick(4, 0);
        x.sick(5, 1);
        x.rota(2, 8);
        x.force(1);
        x.days(3);
        x.feed(0, 2);
        x.write(0, 1, 9);
        Due.is("undo()", x.undo(), 2);
        Due.is("the tape is not kept", x.wipe(), 2);
        Due.is("nor are the sheets", x.write(0, 1, 0), 9);
        Due.holds("all is as it was", was.equals(Due.all(x)));
        x.days(30);
        Due.is("the image stays", x.undo(), 2);
        Due.holds("all is as it was again", was.equals(Due.all(x)));
        Due.is("tear()", x.tear(), 1);
        Due.is("tear() again", x.tear(), 0);
        Due.is("undo()", x.undo(), Due.NONE);
        Due.holds("all is as it was still", was.equals(Due.all(x)));
    }

    private static void latest() {
        WindRota x = new WindRota();
        x.image();
        x.thing(0, 1);
        x.image();
        x.thing(0, 2);
        Due.is("the latest", x.undo(), 1);
        Due.is("and it again", x.undo(), 1);
    }

    private static void placesUsedAgain() {
        WindRota x = new WindRota();
        x.image();
        x.thing(1, 14);
        x.set(0, 2, 7);
        x.set(0, 3, 55);
        x.undo();
        Due.is("thing(2, 3)", x.thing(2, 3), 0);
        Due.is("its facing", x.of(0, 2), 0);
        Due.is("its sum", x.of(0, 3), 0);
        x.undo();
        x.thing(1, 14);
        x.set(0, 3, 55);
        x.undo();
        Due.is("by a text", Due.sea(x, "kite at 1"), 1);
        Due.is("its sum", x.of(0, 3), 0);
    }

    private static void count() {
        WindRota x = some();
        x.feed(0, 3);
        x.rota(0, 8);
        Due.is("count(0)", x.count(0), 2);
        Due.is("count(1)", x.count(1), 3);
        Due.is("count(2)", x.count(2), 1);
        Due.is("count(3)", x.count(3), 2);
        Due.is("count(-1)", x.count(-1), Due.BEYOND);
        Due.is("count(4)", x.count(4), Due.BEYOND);
    }

    private static void status() {
        WindRota x = new WindRota();
        for (int which = -1; which < 7; which++) {
            Due.is("new: status(" + which + ")", x.status(which), 0);
        }
        x.image();
        x.rota(7, 0);
        x.reach(0, 0);
        for (int t = 0; t < 9; t++) {
            x.thing(0, 0);
        }
        x.as(0, 1);
        x.as(0, 2);
        x.as(0, 3);
        x.lee(0, 0);
        x.write(0, 0, 0);
        x.lays(0);
        x.sheet(0, 8, -1);
        x.sea();
        int[] due = {2, 1, 3, 1, 0, 2, 1};
        tell(x, due);
        x.undo();
        tell(x, due);
        Due.is("status(7)", x.status(7), Due.BEYOND);
        Due.is("status(-2)", x.status(-2), Due.BEYOND);
        due[0] += 2;
        tell(x, due);
        for (int i = 0; i < 167; i++) {
            x.days(60);
        }
        due[4] = 1;
        tell(x, due);
    }

    private static void tell(WindRota x, int[] due) {
        int all = 0;
        for (int which = 0; which < 7; which++) {
            Due.is("status(" + which + ")", x.status(which), due[which]);
            all += due[which];
        }
        Due.is("status(-1)", x.status(-1), all);
    }
}
