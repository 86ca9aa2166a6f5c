import com.sun.management.ThreadMXBean;
import java.lang.management.ManagementFactory;
import java.util.List;
import java.util.function.ToIntFunction;

/**
 * All calls of a run share the room of some 600,000 objects and 7.3 million fields and elements. Each of these takes
 * a byte or more, and each object 16 or more: so what takes fewer bytes than there is room for fields has room.
 */
public final class RoomTest {
    private static final int ROOM = 7300000;
    private static final int GROWING = 40;
    private static final int DEEDS = 60;
    private static final ThreadMXBean THREADS = (ThreadMXBean) ManagementFactory.getThreadMXBean();

    private static final List<ToIntFunction<RimGrains>> CALLS = List.of(
            x -> x.begin(2), x -> x.lot(7), x -> x.go(5), x -> x.rain(20), x -> x.breakOff(1), x -> x.wash(),
            x -> x.set(1, 200), x -> x.append('w'), x -> x.clear(), x -> x.fault(), x -> x.carryOut(), x -> x.why(0),
            x -> x.cell(60, 2), x -> x.grain(0, 4), x -> x.grain(0, 6), x -> x.screens(5), x -> x.ring(2),
            x -> x.apart(0, 1), x -> x.longest(0), x -> x.longest(1), x -> x.count(4), x -> x.count(6),
            x -> x.count(12), x -> (int) x.density(), x -> x.ifGone(5, 2), x -> x.ifBroken(1, 3), x -> x.undo(),
            x -> x.save(), x -> x.restore());

    private RoomTest() {
    }

    public static void main(String[] args) {
        THREADS.getThreadAllocatedBytes(Thread.currentThread().getId());
        for (int i = 0; i < CALLS.size(); i++) {
            runTakes(CALLS.get(i), 1);
            long taken = runTakes(CALLS.get(i), 1);
            Check.holds("a run of the call " + i + " takes " + taken + " bytes", taken > 0 && taken < ROOM);
        }
        runTakes(RoomTest::deeds, DEEDS);
        long taken = runTakes(RoomTest::deeds, DEEDS);
        Check.holds("a run of deeds takes " + taken + " bytes", taken > 0 && taken < ROOM);
        Check.end("RoomTest");
    }

    private static int deeds(RimGrains x) {
        for (int i = 0; i < DEEDS - 1; i++) {
            x.append(i % 2 == 0 ? 'w' : ';');
        }
        return x.carryOut();
    }

    private static long runTakes(ToIntFunction<RimGrains> call, int callsEach) {
        long before = THREADS.getThreadAllocatedBytes(Thread.currentThread().getId());
        RimGrains x = new RimGrains();
        x.set(RimGrains.WIND, 2);
        x.save();
        for (int i = 0; i < GROWING; i++) {
            x.rain(20);
        }
        for (int i = GROWING + 2; i + callsEach <= Grains.MOST_CALLS; i += callsEach) {
            call.applyAsInt(x);
        }
        return THREADS.getThreadAllocatedBytes(Thread.currentThread().getId()) - before;
    }
}
