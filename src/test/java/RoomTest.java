import java.lang.management.ManagementFactory;
import java.util.function.IntSupplier;

/**
 * The dearest runs stay far below the room that one run has (some 7.3 million fields and elements), and so would 512
 * calls of the dearest kind: what has a size is made with the object, and no call makes rows that grow with its numbers.
 */
public final class RoomTest {
    private static final Due due = new Due();
    private static final com.sun.management.ThreadMXBean THREADS =
            (com.sun.management.ThreadMXBean) ManagementFactory.getThreadMXBean();
    private static final long SELF = Thread.currentThread().getId();
    /** A quarter of that room, four bytes each. */
    private static final long MOST_BYTES = 7_300_000;
    /** Eight messages with all that they carry: the most that one call sends. */
    private static final long MOST_BYTES_OF_A_CALL = 4_096;
    private static final int[] PLACES = {1, 2, 3, 15, 16, 17, 255, 256, 257, 1000, 2048, 4095, 4096};

    private static int calls;
    private static long dearest;

    public static void main(String[] args) {
        // The first time classes are loaded, which is none of the program's doing.
        for (int kind = 0; kind < 6; kind++) {
            run(kind);
        }
        for (int kind = 0; kind < 6; kind++) {
            calls = 0;
            dearest = 0;
            long before = allocated();
            run(kind);
            long bytes = allocated() - before;
            System.out.println("run " + kind + ": " + calls + " calls, " + bytes + " bytes, the dearest call " + dearest);
            due.is("calls of run " + kind, calls > 0 && calls <= 512, true);
            due.is("room of run " + kind, bytes < MOST_BYTES, true);
            due.is("room of a call of run " + kind, dearest <= MOST_BYTES_OF_A_CALL, true);
        }
        groupsOfAllSizes();
        everyPool();
        due.end("RoomTest");
    }

    private static void run(int kind) {
        switch (kind) {
            case 0: allWrites(); break;
            case 1: widestWindow(); break;
            case 2: waysBack(); break;
            case 3: manySnapshots(); break;
            case 4: manyHellos(); break;
            default: allGroups(); break;
        }
    }

    private static long allocated() {
        return THREADS.getThreadAllocatedBytes(SELF);
    }

    /** Counts a call and what it makes. */
    private static int call(IntSupplier one) {
        long before = allocated();
        int answer = one.getAsInt();
        dearest = Math.max(dearest, allocated() - before);
        calls++;
        return answer;
    }

    /** No group costs more than another, whatever its volumes and places are, and whichever of the four it is. */
    private static void groupsOfAllSizes() {
        long[] first = groupCosts(1, 1);
        for (int volumes = 1; volumes <= 8; volumes++) {
            for (int places : PLACES) {
                long[] costs = groupCosts(volumes, places);
                for (int g = 0; g < 4; g++) {
                    String name = "group(" + volumes + ", " + places + "), number " + g;
                    due.is("bytes made by " + name, costs[g], first[0]);
                    due.is("small: " + name, costs[g] < 1000, true);
                }
                placesAreThere(volumes, places);
            }
        }
        System.out.println("a call of group: " + first[0] + " bytes");
    }

    /** What each of four such groups makes: the least of some times, as the machine at times makes things of its own. */
    private static long[] groupCosts(int volumes, int places) {
        long[] least = {Long.MAX_VALUE, Long.MAX_VALUE, Long.MAX_VALUE, Long.MAX_VALUE};
        for (int again = 0; again < 5; again++) {
            TwinVaults x = new TwinVaults(8192, 8, 8);
            for (int g = 0; g < 4; g++) {
                long before = allocated();
                int answer = x.group(volumes, places);
                least[g] = Math.min(least[g], allocated() - before);
                due.is("group", answer, g);
            }
        }
        return least;
    }

    /** The stores that were made with the object have just the group's places. */
    private static void placesAreThere(int volumes, int places) {
        TwinVaults x = new TwinVaults(16, 2, 1);
        x.group(volumes, places);
        due.is("the last place", x.write(0, volumes - 1, places - 1, 5), 1);
        due.is("no place behind it", x.write(0, volumes - 1, places, 5), TwinVaults.BAD);
        due.is("no volume behind it", x.write(0, volumes, places - 1, 5), TwinVaults.BAD);
        due.is("its copy's place", Due.read(x, 4, volumes - 1, places - 1), 0);
        due.is("no place of its copy behind it", Due.read(x, 4, volumes - 1, places), Due.OUT_OF_BOUNDS);
        due.is("no other group", x.state(1, 0), TwinVaults.BAD);
        due.is("no other group's copy", x.state(5, 0), TwinVaults.BAD);
        due.is("no write there", x.write(1, 0, 0, 5), TwinVaults.BAD);
    }

    /** What is sent and what is lost may be as much as a pool holds, and is told whole then. */
    private static void everyPool() {
        for (int pool : new int[] {16, 17, 100, 4095, 4096, 4097, 8191, 8192}) {
            TwinVaults x = new TwinVaults(pool, 2, 1);
            x.group(3, 4096);
            int written = 0;
            for (int volume = 2; volume >= 0 && written < pool; volume--) {
                written += x.fill(0, volume, 0, 4096, 7);
            }
            due.is("as many as the pool has", written, pool);
            due.is("none is free", x.total(12), 0);
            x.snapshot(0);
            x.tick();
            due.is("OFFER of all", x.message(0, 5), pool);
            x.pass(0, 0);
            x.force(4);
            x.tick();
            x.pass(0, 1);
            due.is("PRIMARY behind an OFFER", x.state(0, 0), 3);
            x.back(0);
            for (int i = 0; i < 4 && x.state(0, 0) == 3; i++) {
                x.pass(x.total(3) - 1, 1);
            }
            due.is("it is a COPY", x.state(0, 0), 0);
            due.is("all is lost", x.state(0, 22), pool);
            int last = pool <= 4096 ? pool - 1 : 4095;
            Runs.lost(due, x, 0, pool - 1, 2, last, 7 + last);
            due.is("none behind the last one", Due.lost(x, 0, pool, 0), Due.OUT_OF_BOUNDS);
        }
    }

    /** As many writes as there may be, in four groups of the largest kind, all sent as far as the calls go. */
    private static void allWrites() {
        TwinVaults x = new TwinVaults(8192, 2, 8);
        for (int g = 0; g < 4; g++) {
            due.is("group", call(() -> x.group(8, 4096)), g);
        }
        for (int i = 0; i < 60; i++) {
            int n = i;
            call(() -> x.fill(n % 2, 7, 0, 1000, n));
            call(() -> x.snapshot(n % 2));
            call(x::tick);
        }
        due.is("writes made", x.total(2), 60000);
        for (int i = 0; i < 300; i++) {
            call(() -> x.pass(0, 1));
        }
    }

    private static void widestWindow() {
        TwinVaults x = new TwinVaults(8192, 2, 8);
        call(() -> x.group(8, 4096));
        call(() -> x.fill(0, 3, 0, 4096, 1));
        call(() -> x.fill(0, 1, 0, 4000, 1));
        call(() -> x.snapshot(0));
        for (int round = 0; round < 40; round++) {
            call(x::tick);
            call(() -> x.pass(0, 2));
            for (int i = 0; i < 10; i++) {
                call(() -> x.pass(Math.max(0, x.total(3) - 1), 1));
            }
        }
    }

    /** Each time all that was written anew is lost and told. */
    private static void waysBack() {
        TwinVaults x = new TwinVaults(8192, 2, 8);
        call(() -> x.group(1, 4096));
        int ways = 0;
        for (int round = 0; round < 49; round++) {
            int number = round;
            int h = x.state(0, 0) == 1 ? 0 : 4;
            call(() -> x.fill(h, 0, 0, 4096, number));
            call(() -> x.force(4 - h));
            call(x::tick);
            for (int i = 0; i < 4; i++) {
                call(() -> x.pass(x.total(3) - 1, 1));
            }
            call(() -> x.back(h));
            call(() -> x.pass(x.total(3) - 1, 1));
            call(() -> x.pass(x.total(3) - 1, 1));
            ways += x.state(h, 0) == 0 ? 1 : 0;
        }
        due.is("ways back", ways > 5, true);
    }

    private static void manySnapshots() {
        TwinVaults x = new TwinVaults(8192, 8, 8);
        call(() -> x.group(1, 4096));
        call(() -> x.period(1) ? 1 : 0);
        for (int i = 0; i < 254; i++) {
            int n = i;
            call(() -> x.fill(0, 0, 2 * n, 300, n));
            call(x::tick);
        }
    }

    /** Four stores with all the snapshots that there may be tell of them in one tick. */
    private static void manyHellos() {
        TwinVaults x = new TwinVaults(8192, 8, 8);
        for (int g = 0; g < 4; g++) {
            int h = g;
            call(() -> x.group(8, 4096));
            for (int i = 0; i < 10; i++) {
                int n = i;
                call(() -> x.write(h, 7, n, n));
                call(() -> x.snapshot(h));
            }
        }
        for (int g = 0; g < 4; g++) {
            int h = g;
            call(() -> x.force(4 + h));
        }
        call(x::tick);
        for (int i = 0; i < 12; i++) {
            call(() -> x.pass(0, 1));
        }
        for (int g = 0; g < 4; g++) {
            int h = g;
            due.is("snapshots", x.state(h, 5), 8);
            due.is("back", call(() -> x.back(h)), 0);
        }
        int sent = x.total(4);
        for (int i = 0; i < 8; i++) {
            call(x::tick);
        }
        due.is("each said HELLO once more", x.total(4) - sent >= 4, true);
    }

    /** As often as there are calls: only the first four are not refused. */
    private static void allGroups() {
        TwinVaults x = new TwinVaults(8192, 8, 8);
        for (int i = 0; i < 512; i++) {
            int want = i < 4 ? i : TwinVaults.NONE;
            due.is("group", call(() -> x.group(8, 4096)), want);
        }
    }
}
