import java.lang.management.ManagementFactory;

/** What an object and its calls take of the room: 600,000 objects, 7.3 million fields and elements for a run. */
public final class RoomTest {
    private static final Due due = new Due();
    private static SkyFees x;

    public static void main(String[] args) {
        com.sun.management.ThreadMXBean room = (com.sun.management.ThreadMXBean) ManagementFactory.getThreadMXBean();
        prepare();
        calls();
        long before = room.getCurrentThreadAllocatedBytes();
        for (int i = 0; i < 20; i++) {
            calls();
        }
        long taken = room.getCurrentThreadAllocatedBytes() - before;
        due.is("calls take no room (" + taken + " bytes)", taken < 2000 ? 1 : 0, 1);
        before = room.getCurrentThreadAllocatedBytes();
        x = new SkyFees();
        taken = room.getCurrentThreadAllocatedBytes() - before;
        due.is("an object takes little room (" + taken + " bytes)", taken < 40000 ? 1 : 0, 1);
        due.end();
    }

    private static void prepare() {
        x = Due.twoLands(5000);
        Due.law(x, 3, 0, "(w+m*d)/!(l=2)|1");
        Due.law(x, 2, 0, "w*2-m/5");
        Due.file(x, 0, 0, 1, 2, 3, 4);
        Due.fly(x, 0, 0, -1, -1, -1, -1, -1, -1, -1, -1, -1, -1, 1);
        x.bill(0);
        x.image();
    }

    private static void calls() {
        x.image();
        x.restore();
        x.feed('(', 1);
        x.law(0, 0);
        x.feed('1', 1);
        x.law(1, 0);
        x.says(0, 0, 0, 1);
        x.miles(0, 1, 3000, 2);
        x.right(0);
        x.beside(1, true);
        x.cheapest(0, 0, 63, -1);
        x.gain(0, 0, 63, 1);
        x.voice(0, 3, 9);
        x.file(0, 0);
        x.fly(0, 0);
        x.sheet(1, 8, 24);
        x.move(0, 0, 0, 1, 2);
        x.block(1, 0);
        x.pay(0, 1, 1);
        x.landIs(1, 6);
        x.planeIs(0, 3);
        x.told(11);
        x.found(9);
        x.restore();
    }
}
