import com.sun.management.ThreadMXBean;
import java.lang.management.ManagementFactory;

/** The calls of a run share little room: what an object takes is bounded, and its calls make nothing new. */
public final class RoomTest {
    private static final int CALLS = 512;

    private RoomTest() {
    }

    public static void main(String[] args) {
        ThreadMXBean threads = (ThreadMXBean) ManagementFactory.getThreadMXBean();
        long thread = Thread.currentThread().getId();
        RimGrains x = Plates.grown();
        callAll(x);
        threads.getThreadAllocatedBytes(thread);
        long before = threads.getThreadAllocatedBytes(thread);
        long measuring = threads.getThreadAllocatedBytes(thread) - before;
        before = threads.getThreadAllocatedBytes(thread);
        new RimGrains();
        long made = threads.getThreadAllocatedBytes(thread) - before - measuring;
        before = threads.getThreadAllocatedBytes(thread);
        for (int i = 0; i < CALLS; i++) {
            callAll(x);
        }
        long called = threads.getThreadAllocatedBytes(thread) - before - measuring;
        Check.holds("an object takes " + made + " bytes", made > 0 && made < 40000);
        Check.holds("the calls take " + called + " bytes", called < 4 * CALLS);
        Check.end("RoomTest");
    }

    private static void callAll(RimGrains x) {
        for (int i = 0; i < 20; i++) {
            x.count(i);
            x.cell(i, i % 4);
            x.grain(i, i % 9);
            x.screens(i);
            x.ifGone(i, i % 3);
            x.ifBroken(i, i % 4);
            x.ring(i % 6);
            x.go(i);
        }
        x.apart(0, 1);
        x.longest(0);
        x.longest(1);
        x.density();
        x.append('w');
        x.append(';');
        x.append('b');
        x.append('0');
        x.fault();
        x.carryOut();
        x.why(0);
        x.clear();
        x.rain(20);
        x.lot(x.count(17));
        x.set(RimGrains.WIND, 1);
        x.save();
        x.breakOff(5);
        x.restore();
        x.undo();
        if (x.count(0) > 60) {
            x.wash();
        }
    }
}
