import java.lang.management.ManagementFactory;

/** The dearest runs stay far below the room that one run has: some 7.3 million fields and elements. */
public final class RoomTest {
    private static final Due due = new Due();
    /** A quarter of that room, four bytes each. */
    private static final long MOST_BYTES = 7_300_000;

    public static void main(String[] args) {
        com.sun.management.ThreadMXBean threads = (com.sun.management.ThreadMXBean) ManagementFactory.getThreadMXBean();
        long self = Thread.currentThread().getId();
        for (int kind = 0; kind < 4; kind++) {
            long before = threads.getThreadAllocatedBytes(self);
            int calls = run(kind);
            long bytes = threads.getThreadAllocatedBytes(self) - before;
            System.out.println("run " + kind + ": " + calls + " calls, " + bytes + " bytes");
            due.is("calls of run " + kind, calls <= 512, true);
            due.is("room of run " + kind, bytes < MOST_BYTES, true);
        }
        due.end("RoomTest");
    }

    private static int run(int kind) {
        switch (kind) {
            case 0: return allWrites();
            case 1: return widestWindow();
            case 2: return waysBack();
            default: return manySnapshots();
        }
    }

    /** As many writes as there may be, in four groups of the largest kind, all sent as far as the calls go. */
    private static int allWrites() {
        TwinVaults x = new TwinVaults(8192, 2, 8);
        int calls = 0;
        for (int g = 0; g < 4; g++) {
            due.is("group", x.group(8, 4096), g);
            calls++;
        }
        for (int i = 0; i < 60; i++) {
            x.fill(i % 2, 7, 0, 1000, i);
            x.snapshot(i % 2);
            x.tick();
            calls += 3;
        }
        due.is("writes made", x.total(2), 60000);
        while (calls < 511) {
            x.pass(0, 1);
            calls++;
        }
        return calls;
    }

    private static int widestWindow() {
        TwinVaults x = new TwinVaults(8192, 2, 8);
        x.group(8, 4096);
        x.fill(0, 3, 0, 4096, 1);
        x.fill(0, 1, 0, 4000, 1);
        x.snapshot(0);
        int calls = 4;
        while (calls < 500) {
            x.tick();
            x.pass(0, 2);
            for (int i = 0; i < 10; i++) {
                x.pass(Math.max(0, x.total(3) - 1), 1);
            }
            calls += 12;
        }
        return calls;
    }

    /** Each time all that was written anew is lost and told. */
    private static int waysBack() {
        TwinVaults x = new TwinVaults(8192, 2, 8);
        x.group(1, 4096);
        int calls = 1;
        int ways = 0;
        while (calls < 490) {
            int h = x.state(0, 0) == 1 ? 0 : 4;
            x.fill(h, 0, 0, 4096, calls);
            x.force(4 - h);
            x.tick();
            calls += 3;
            for (int i = 0; i < 4; i++) {
                x.pass(x.total(3) - 1, 1);
                calls++;
            }
            x.back(h);
            x.pass(x.total(3) - 1, 1);
            x.pass(x.total(3) - 1, 1);
            calls += 3;
            ways += x.state(h, 0) == 0 ? 1 : 0;
        }
        due.is("ways back", ways > 5, true);
        return calls;
    }

    private static int manySnapshots() {
        TwinVaults x = new TwinVaults(8192, 8, 8);
        x.group(1, 4096);
        x.period(1);
        int calls = 2;
        while (calls < 510) {
            x.fill(0, 0, calls, 300, calls);
            x.tick();
            calls += 2;
        }
        return calls;
    }
}
