import com.sun.management.ThreadMXBean;
import java.lang.management.ManagementFactory;

/** How much room an object takes with its dearest 512 calls: all calls of a run live in one room. */
public final class RoomTest {
    private static final ThreadMXBean THREADS = (ThreadMXBean) ManagementFactory.getThreadMXBean();

    public static void main(String[] args) {
        // the first of each kind loads classes
        for (int i = 0; i < 3; i++) {
            newObject();
            manyCalls();
        }
        Checks.due("bytes of a new object, at most 24,000: " + newObject(), newObject() <= 24_000, true);
        // with EACH 1 the SIGNS of 6 TEAMS are 12,000 numbers; keep() holds a second race
        Checks.due("bytes with 512 calls, at most 100,000: " + manyCalls(), manyCalls() <= 100_000, true);
        Checks.due("bytes of calls that ask", askAll() == 0, true);
        Checks.end("RoomTest");
    }

    private static long bytes() {
        return THREADS.getThreadAllocatedBytes(Thread.currentThread().getId());
    }

    private static long newObject() {
        long before = bytes();
        SledHouse x = new SledHouse();
        long taken = bytes() - before;
        Checks.due("count(0)", x.count(0), 0);
        return taken;
    }

    private static long manyCalls() {
        long before = bytes();
        SledHouse x = new SledHouse();
        int calls = 0;
        x.leg(2000, 100);
        x.feed(0x73746179, 0x20202020, 0x20202020, 0x20202020, 0x20202020);
        x.plan(20);
        for (int i = 0; i < 6; i++) {
            x.team(16, 300, 60, 0, 0);
        }
        x.each(1);
        x.keep();
        for (calls = 10; calls < 508; calls += 4) {
            x.keep();
            x.run(500);
            x.replay(0, 0, 0);
            x.back();
        }
        return bytes() - before;
    }

    /** Bytes that questions take; the first round only warms up. */
    private static long askAll() {
        SledHouse x = Houses.over();
        long taken = 0;
        for (int round = 0; round < 2; round++) {
            long before = bytes();
            for (int i = -1; i < 14; i++) {
                x.about(0, i);
                x.dog(0, i, 0);
                x.time(0, i, true);
                x.place(i);
                x.came(i, 9);
                x.spot(0, i, true);
                x.count(i);
                x.law(0, i);
                x.lacks(0, i);
            }
            x.result(0);
            x.signs(0);
            x.did(0);
            x.replay(0, 1, 0);
            taken = bytes() - before;
        }
        return taken;
    }
}
