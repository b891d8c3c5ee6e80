import java.lang.management.ManagementFactory;

/** No call makes an object: what is made in the constructor is used again by all of them. */
public final class RoomTest {
    private static final int ROUNDS = 50;

    public static void main(String[] args) {
        com.sun.management.ThreadMXBean room = (com.sun.management.ThreadMXBean) ManagementFactory.getThreadMXBean();
        // Each object is used for a few rounds only: it is promised for 512 calls.
        WindRota[] seas = new WindRota[ROUNDS];
        for (int i = 0; i < ROUNDS; i++) {
            seas[i] = new WindRota();
        }
        long sum = round(seas[0]);
        long me = Thread.currentThread().getId();
        room.getThreadAllocatedBytes(me);
        long before = room.getThreadAllocatedBytes(me);
        for (int i = 0; i < ROUNDS; i++) {
            sum += round(seas[i]);
        }
        long made = room.getThreadAllocatedBytes(me) - before;
        // Some bytes are the measuring's own; an object for each round would be far above.
        Due.holds(made + " bytes made by " + ROUNDS + " rounds (" + sum + ")", made < 16L * ROUNDS);
        Due.end();
    }

    private static long round(WindRota x) {
        long sum = x.rota(0, 3) + x.rotaOf(1) + x.sick(2, 1) + x.force(3) + x.blows(4) + x.lee(5, 6);
        sum += x.thing(1, 14) + x.of(0, 4) + x.set(0, 2, 3) + x.turn(0, 4) + x.as(0, 1);
        sum += x.days(3) + x.bribe(4) + x.now(5) + x.on(0, 60, 0) + x.comes(0, 35) + x.meet(0, 1);
        sum += x.bribes(0, 35, 30) + x.soonest(0, 35, 9) + x.reach(0, 30) + x.swap(30) + x.missed(30);
        sum += x.enough(30, 99999) + x.kind(0, 30) + x.facing(0, 30) + x.best(0, 30);
        sum += x.wipe() + text(x) + x.sea() + x.sheet(0, 8, 40) + x.sheet(1, 8, 20) + x.write(0, 1, 2);
        sum += x.copy(0, 1, 1, 2, 3) + x.lays(1) + x.book(0, 0) + x.read(0, 0);
        return sum + x.image() + x.undo() + x.tear() + x.count(2) + x.status(0) + x.status(9);
    }

    private static int text(WindRota x) {
        x.feed('r' << 24 | 'o' << 16 | 't' << 8 | 'a', 4);
        x.feed(' ' << 24 | '1' << 16 | ' ' << 8 | '2', 4);
        x.feed(';' << 24 | 's' << 16 | 'i' << 8 | 'c', 4);
        return x.feed('k' << 16 | ' ' << 8 | '5', 3);
    }
}
