import com.sun.management.ThreadMXBean;
import java.lang.management.ManagementFactory;

/** All calls of a run live in one room: no call makes an object, and a new one is small. */
final class RoomTest {
    private static final int OBJECTS = 12, ROUNDS = 25;
    private static final ThreadMXBean THREADS = (ThreadMXBean) ManagementFactory.getThreadMXBean();

    public static void main(String[] args) {
        // The machine's own loading of classes is not counted.
        use(new NoonFields[] {new NoonFields()});
        long start = bytes();
        NoonFields[] all = new NoonFields[OBJECTS];
        for (int k = 0; k < OBJECTS; k++) {
            all[k] = new NoonFields();
        }
        long size = (bytes() - start) / OBJECTS;
        Due.is("a new one of " + size + " bytes takes 16000 at most", size <= 16000 ? 1 : 0, 1);
        // What telling the bytes takes itself is taken off.
        long before = bytes();
        long cost = bytes() - before;
        before = bytes();
        use(all);
        long taken = bytes() - before - cost;
        // One object in each round would take far more.
        Due.is("rounds of calls on " + OBJECTS + " take " + taken + " bytes, 2000 at most", taken <= 2000 ? 1 : 0, 1);
        Due.end("RoomTest");
    }

    private static long bytes() {
        return THREADS.getThreadAllocatedBytes(Thread.currentThread().getId());
    }

    private static void use(NoonFields[] all) {
        for (int k = 0; k < all.length; k++) {
            use(all[k]);
        }
    }

    private static void use(NoonFields x) {
        x.deal(5);
        for (int k = 0; k < ROUNDS; k++) {
            x.best(0);
            x.nobodys(60, 0);
            x.beside(60, 0);
            x.sheet(0, 1, 24);
            x.atHome(0, 60, 0);
            x.rota(9);
            x.sold(0, 0, 60);
            x.feed(0x746f6c6c, 0x28732b31, 0x292f6c20);
            x.text();
            x.toll();
            x.feed(0x77616c6b, 0x2864292a, 0x31322020);
            Due.is("text", x.text(), k < 7 ? 2 * k + 1 : Due.FULL);
            x.lay(k % 5, k % 3, 0);
            x.copy(0, 0, 0, 1, 20);
            x.tell(k);
            x.keep();
            x.check(30);
            x.back();
            x.noons(2);
        }
    }
}
