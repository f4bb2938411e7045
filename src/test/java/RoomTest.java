import java.lang.management.ManagementFactory;

/** All calls of a run live in one room: what the class makes is kept far below its 600,000 objects, 7.3 million elements. */
public final class RoomTest {
    private static final com.sun.management.ThreadMXBean THREADS =
        (com.sun.management.ThreadMXBean) ManagementFactory.getThreadMXBean();

    public static void main(String[] args) {
        Checks c = new Checks("RoomTest");
        for (int k = 0; k < 20; k++) new Warehouselore();
        long before = made();
        new Warehouselore();
        long one = made() - before;
        System.out.println("a new object: " + one + " bytes");
        // An element has four bytes at least: 512 new objects stay below the room as well.
        c.due("a new object is small", one < 4 * 7_300_000 / 512, true);
        long run = dearRun();
        System.out.println("a dear run: " + run + " bytes");
        c.due("a dear run is small", run < 4_000_000, true);
        c.close();
    }

    private static long made() {
        return THREADS.getThreadAllocatedBytes(Thread.currentThread().getId());
    }

    /** Many holdings, made again and again: every lot in many slots, orders of many pieces, shorts by counts. */
    private static long dearRun() {
        Warehouselore x = Steps.withLots();
        int calls = 8;
        for (int k = 0; k < 40; k++) {
            Steps.lay(x, k % 18, k % 6, 99);
            calls += 3;
        }
        for (int o = 0; o < 8; o++) {
            x.order(o, false, 0);
            for (int l = 0; l < 3; l++) x.line(o, (o + l) % 6, 99);
            calls += 4;
        }
        long before = made();
        for (; calls + 6 <= 512; calls += 6) {
            x.allocate();
            x.lose(calls % 18, calls % 6, 50);
            x.count(calls % 18, calls % 6);
            x.count(calls % 18, calls % 6);
            x.boxes(0);
            x.pass(50);
        }
        return made() - before;
    }
}
