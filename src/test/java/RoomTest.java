import com.sun.management.ThreadMXBean;
import java.lang.management.ManagementFactory;
import java.math.BigInteger;

/** The dearest calls, 512 of them, make nearly nothing: all calls of one run live in one room. */
final class RoomTest {
    private static final Check CHECK = new Check();
    private static final ThreadMXBean MEASURE = (ThreadMXBean) ManagementFactory.getThreadMXBean();

    public static void main(String[] args) {
        House warm = new House();
        runAll(warm, prepare(warm));
        House h = new House();
        int calls = prepare(h);
        long before = MEASURE.getCurrentThreadAllocatedBytes();
        runAll(h, calls);
        long made = MEASURE.getCurrentThreadAllocatedBytes() - before;
        CHECK.holds("many calls make " + made + " bytes", made < 20_000);
        before = MEASURE.getCurrentThreadAllocatedBytes();
        new SealHouse();
        made = MEASURE.getCurrentThreadAllocatedBytes() - before;
        CHECK.holds("an object has " + made + " bytes", made < 60_000);
        before = MEASURE.getCurrentThreadAllocatedBytes();
        for (int k = 0; k < 16; k++) {
            h.seal.key(20, 21, 22);
        }
        made = MEASURE.getCurrentThreadAllocatedBytes() - before;
        CHECK.holds("15 keys have " + made + " bytes", made < 150_000);
        CHECK.due("16 keys", 16, h.seal.keys());
        CHECK.end();
    }

    /** How many calls this took. */
    private static int prepare(House h) {
        Keys key = new Keys(1024, 65537, 12);
        key.whole(h);
        h.put(0, House.times(255, 256)).put(1, new BigInteger(1, House.times(251, 256))).put(2, key.n);
        h.put(3, House.times(7, 32)).put(4, House.times(9, 50));
        h.seal.hide(0, 0, 4, 3, 3, 5);
        h.seal.sign(0, 0, 4, 6);
        h.seal.salt(0, 0, 4, 3, 7);
        return 80;
    }

    private static void runAll(House h, int calls) {
        SealHouse x = h.seal;
        for (int k = calls; k + 14 < 470; k += 14) {
            x.calc(8, 0, 1, 2, 8);
            x.calc(7, 0, 1, 2, 8);
            x.calc(6, 3, 4, 2, 8);
            x.mask(0, 0, 256, 8);
            x.probable(20);
            x.next(3, 8);
            x.hide(0, 0, 4, 3, 3, 8);
            x.show(0, 0, 5, 3, 8);
            x.sign(0, 0, 4, 8);
            x.prove(0, 0, 4, 6);
            x.salt(0, 0, 4, 3, 8);
            x.taste(0, 0, 4, 7, 32);
            x.turn(0, 1, 3, 8);
            x.part(0, 2, 8);
        }
    }
}
