import com.sun.management.ThreadMXBean;
import java.lang.management.ManagementFactory;

/** What a register makes: little in its constructor, and the tons of shapes once for an act. */
public final class RoomTest {
    private static final int CALLS = 512;
    private static final long MOST_FOR_NEW = 8 << 10;
    private static final long MOST_FOR_SHAPES = 48 << 10;
    private static final ThreadMXBean MACHINE = (ThreadMXBean) ManagementFactory.getThreadMXBean();

    public static void main(String[] args) {
        // Loading the classes makes objects too: a first register has them loaded.
        fill(new HullRegister());
        long before = made();
        HullRegister x = new HullRegister();
        long forNew = made() - before;
        Check.holds("a new register is small: " + forNew + " bytes", forNew <= MOST_FOR_NEW);
        fill(x);
        before = made();
        for (int i = 0; i < CALLS; i++) {
            x.shape(i % 5, 1 + i * 3, i % 4);
        }
        long forShapes = made() - before;
        Check.holds("shapes are reckoned once: " + forShapes + " bytes", forShapes <= MOST_FOR_SHAPES);
        before = made();
        for (int i = 0; i < CALLS; i++) {
            callOther(x, i);
        }
        long forOthers = made() - before;
        Check.holds("other calls make nothing: " + forOthers + " bytes", forOthers <= 1 << 10);
        Check.end();
    }

    private static long made() {
        return MACHINE.getThreadAllocatedBytes(Thread.currentThread().getId());
    }

    private static void fill(HullRegister x) {
        for (int i = 0; i < 5; i++) {
            Check.enact(x, "lb*d*", i);
        }
    }

    private static void callOther(HullRegister x, int i) {
        switch (i % 14) {
            case 0: x.feed('l'); break;
            case 1: x.act(i); break;
            case 2: x.tons(0, 9, 9, 9, 9); break;
            case 3: x.hull(9, 9, 9, 9); break;
            case 4: x.measure(0, 500); break;
            case 5: x.sell(0, 0, 1, 1); break;
            case 6: x.pledge(0, 0, 1, 1); break;
            case 7: x.redeem(x.many(2) - 1); break;
            case 8: x.forge(i / 9); break;
            case 9: x.paper(i, i, 1, 9, 0); break;
            case 10: x.witness(i % 3, i % 7, true); break;
            case 11: x.group(i % 8); break;
            case 12: x.entry(i / 14, 7); break;
            default: x.many(4);
        }
    }
}
