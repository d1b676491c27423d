import java.util.Random;
import java.util.Set;
import java.util.TreeSet;

/** Promises 1 to 7: a new object, group, write, fill, flush, checkpoint, snapshot. */
public final class StoreTest {
    private static final Due due = new Due();
    private static final int MIN = Integer.MIN_VALUE, MAX = Integer.MAX_VALUE;

    public static void main(String[] args) {
        newObject();
        keepIsHeld();
        windowIsHeld();
        group();
        write();
        writeFlushesAtSixtyFour();
        writeThatFindsNoRoom();
        writeAtTheLimit();
        fill();
        fillThatIsCutShort();
        flush();
        flushThatIsACheckpoint();
        checkpoint();
        nodesOfManyPlaces();
        snapshot();
        snapshotThatIsCutShort();
        snapshotAtTheLimit();
        due.end("StoreTest");
    }

    private static TwinVaults made(int pool, int volumes, int places) {
        TwinVaults x = new TwinVaults(pool, 3, 2);
        due.is("group", x.group(volumes, places), 0);
        return x;
    }

    private static void newObject() {
        int[][] pools = {{MIN, 16}, {0, 16}, {15, 16}, {16, 16}, {17, 17}, {8191, 8191}, {8192, 8192}, {8193, 8192},
            {MAX, 8192}};
        for (int[] pool : pools) {
            TwinVaults x = new TwinVaults(pool[0], 2, 1);
            due.is("pool " + pool[0] + " of site 0", x.total(12), pool[1]);
            due.is("pool " + pool[0] + " of site 1", x.total(22), pool[1]);
        }
        TwinVaults x = new TwinVaults(20, 2, 1);
        for (int what = 0; what < 6; what++) {
            due.is("new: total " + what, x.total(what), 0);
        }
        due.is("new: site 0 is up", x.total(10), 1);
        due.is("new: site 1 is up", x.total(20), 1);
        due.is("new: acts", x.total(11) + x.total(21), 0);
        due.is("new: power", x.total(13), -1);
        due.is("new: power of site 1", x.total(23), -1);
        due.is("new: no store", x.state(0, 0), -2);
        // PERIOD is 0: no tick takes a snapshot.
        x.group(1, 4);
        x.write(0, 0, 0, 1);
        for (int i = 0; i < 5; i++) {
            x.tick();
        }
        due.is("new: no period", x.state(0, 5), 0);
    }

    private static void keepIsHeld() {
        int[][] keeps = {{MIN, 2}, {1, 2}, {2, 2}, {3, 3}, {7, 7}, {8, 8}, {9, 8}, {MAX, 8}};
        for (int[] keep : keeps) {
            TwinVaults x = new TwinVaults(100, keep[0], 1);
            x.group(1, 4);
            for (int i = 0; i < 12; i++) {
                x.write(0, 0, 1, i);
                due.is("keep " + keep[0] + ": snapshot " + i, x.snapshot(0), 4097 + i);
                due.is("keep " + keep[0] + ": snapshots", x.state(0, 5), Math.min(i + 1, keep[1]));
            }
            due.is("keep " + keep[0] + ": the oldest", x.snap(0, 0, 0), 4108 - keep[1] + 1);
        }
    }

    private static void windowIsHeld() {
        int[][] windows = {{MIN, 1}, {0, 1}, {1, 1}, {2, 2}, {7, 7}, {8, 8}, {9, 8}, {MAX, 8}};
        for (int[] window : windows) {
            TwinVaults x = new TwinVaults(100, 2, window[0]);
            x.group(1, 60);
            x.fill(0, 0, 0, 60, 1);
            x.snapshot(0);
            x.tick();
            x.pass(0, 1);
            x.pass(0, 1);
            due.is("window " + window[0] + ": in flight", x.total(3), window[1]);
            due.is("window " + window[0] + ": next", x.state(0, 15), window[1]);
        }
    }

    private static void group() {
        TwinVaults x = new TwinVaults(20, 2, 1);
        int[][] bad = {{0, 1}, {9, 1}, {-1, 1}, {MIN, 1}, {MAX, 1}, {1, 0}, {1, 4097}, {1, -1}, {1, MIN}, {1, MAX}};
        for (int[] b : bad) {
            due.is("group " + b[0] + ", " + b[1], x.group(b[0], b[1]), -2);
        }
        due.is("no group by these", x.total(1), 0);
        due.is("group(1, 1)", x.group(1, 1), 0);
        due.is("group(8, 4096)", x.group(8, 4096), 1);
        due.is("two groups", x.total(1), 2);
        due.is("no third one's store", x.state(2, 0), -2);
        due.is("no third one's other store", x.state(6, 0), -2);
        due.is("group(2, 5)", x.group(2, 5), 2);
        due.is("group(1, 7)", x.group(1, 7), 3);
        due.is("a fifth", x.group(1, 1), -1);
        due.is("a fifth that is bad", x.group(1, 0), -2);
        due.is("four groups", x.total(1), 4);
        for (int h = 0; h < 8; h++) {
            due.is("role of " + h, x.state(h, 0), h < 4 ? 1 : 0);
            due.is("epoch of " + h, x.state(h, 1), 1);
            for (int what = 2; what <= 24; what++) {
                due.is("state " + what + " of " + h, x.state(h, what), 0);
            }
        }
        due.is("the last place", x.write(1, 7, 4095, 3), 1);
        due.is("it is there", Due.read(x, 1, 7, 4095), 3);
    }

    private static void write() {
        TwinVaults x = made(64, 2, 40);
        due.is("first", x.write(0, 0, 3, 7), 1);
        due.is("second", x.write(0, 1, 39, MIN), 2);
        due.is("over the first", x.write(0, 0, 3, -1), 3);
        due.is("read", Due.read(x, 0, 0, 3), -1);
        due.is("read the least", Due.read(x, 0, 1, 39), MIN);
        due.is("length", x.state(0, 2), 3);
        due.is("safe", x.state(0, 3), 0);
        due.is("made", x.total(2), 3);
        due.is("no act", x.total(11), 0);
        int[][] bad = {{-1, 0, 0}, {8, 0, 0}, {MIN, 0, 0}, {MAX, 0, 0}, {1, 0, 0}, {5, 0, 0}, {0, -1, 0}, {0, 2, 0},
            {0, MAX, 0}, {0, MIN, 0}, {0, 0, -1}, {0, 0, 40}, {0, 0, MAX}, {0, 0, MIN}, {4, 2, 0}, {4, 0, 40}};
        for (int[] b : bad) {
            due.is("write " + b[0] + ", " + b[1] + ", " + b[2], x.write(b[0], b[1], b[2], 1), -2);
        }
        due.is("of a copy", x.write(4, 0, 0, 1), -4);
        x.crash(1);
        due.is("of a copy that is down", x.write(4, 0, 0, 1), -3);
        due.is("bad and down", x.write(4, 2, 0, 1), -2);
        x.crash(0);
        due.is("of a primary that is down", x.write(0, 0, 0, 1), -3);
        due.is("none of these was made", x.total(2), 3);
    }

    private static void writeFlushesAtSixtyFour() {
        TwinVaults x = made(200, 1, 100);
        for (int i = 0; i < 64; i++) {
            due.is("write " + i, x.write(0, 0, i, i), i + 1);
        }
        due.is("nothing is safe", x.state(0, 3), 0);
        due.is("the next one", x.write(0, 0, 64, 64), 1);
        due.is("all but that are safe", x.state(0, 3), 64);
        due.is("by eight acts", x.total(11), 8);
        due.is("none is kept", x.state(0, 4), 0);
        for (int i = 1; i < 64; i++) {
            x.write(0, 0, i, 7);
        }
        x.power(0, 3);
        due.is("power fails in the flush", x.write(0, 0, 99, 5), -3);
        due.is("it is down", x.total(10), 0);
        due.is("three eights are safe", x.state(0, 3), 88);
        due.is("it is not written", x.state(0, 2), 128);
        due.is("nor counted", x.total(2), 128);
        due.is("what comes up", x.up(0), 40);
        due.is("what is left", x.state(0, 2), 88);
        due.is("place 23 came to be safe", Due.read(x, 0, 0, 23), 7);
        due.is("place 24 did not", Due.read(x, 0, 0, 24), 24);
    }

    private static void writeThatFindsNoRoom() {
        TwinVaults x = made(16, 1, 30);
        for (int i = 0; i < 16; i++) {
            due.is("write " + i, x.write(0, 0, i, 1), i + 1);
        }
        due.is("none is free", x.total(12), 0);
        due.is("one more", x.write(0, 0, 20, 1), -6);
        due.is("one over another", x.write(0, 0, 0, 1), -6);
        due.is("the other site's are free", x.total(22), 16);
        // A second group of the site has the same pool.
        x.group(1, 5);
        due.is("another group", x.write(1, 0, 0, 1), -6);
        due.is("not made", x.total(2), 16);

        // A pending write that is written over needs no block any more.
        TwinVaults y = made(16, 1, 30);
        for (int i = 0; i < 60; i++) {
            due.is("over and over " + i, y.write(0, 0, 0, i), i + 1);
            due.is("blocks " + i, y.state(0, 23), 1);
        }
        // One that is kept, or in a snapshot, needs its own.
        y.checkpoint(0);
        y.write(0, 0, 0, 60);
        due.is("kept and now", y.state(0, 23), 2);
        y.write(0, 0, 0, 61);
        due.is("kept and now again", y.state(0, 23), 2);
        y.flush(0);
        y.write(0, 0, 0, 62);
        due.is("a safe one needs none", y.state(0, 23), 2);
        y.snapshot(0);
        due.is("snapshot, kept, now are one", y.state(0, 23), 1);
        y.write(0, 0, 0, 63);
        y.snapshot(0);
        y.write(0, 0, 0, 64);
        y.checkpoint(0);
        y.write(0, 0, 0, 65);
        due.is("two snapshots, kept, now", y.state(0, 23), 4);
        due.is("free", y.total(12), 12);
    }

    private static void writeAtTheLimit() {
        TwinVaults x = made(8192, 1, 4096);
        for (int i = 0; i < 14; i++) {
            due.is("fill " + i, x.fill(0, 0, 0, 4096, i), 4096);
        }
        due.is("made", x.total(2), 57344);
        due.is("up to the limit", x.fill(0, 0, 0, 4096, 5), 2656);
        due.is("all made", x.total(2), 60000);
        int safe = x.state(0, 3);
        due.is("write", x.write(0, 0, 0, 1), -5);
        due.is("fill", x.fill(0, 0, 0, 9, 1), -5);
        due.is("of a copy", x.write(4, 0, 0, 1), -4);
        due.is("bad", x.write(0, 0, 4096, 1), -2);
        due.is("nothing was flushed", x.state(0, 3), safe);
        x.group(1, 1);
        due.is("of another group, too", x.write(1, 0, 0, 1), -5);
        due.is("length", x.state(0, 2), 60000);
        due.is("place 0", Due.read(x, 0, 0, 0), 5);
        due.is("place 2655", Due.read(x, 0, 0, 2655), 2660);
        due.is("place 2656", Due.read(x, 0, 0, 2656), 13 + 2656);
        due.is("snapshot", x.snapshot(0), 4097);
        due.is("blocks", x.state(0, 23), 4096);
    }

    private static void fill() {
        TwinVaults x = made(200, 2, 40);
        due.is("one", x.fill(0, 0, 39, 1, 5), 1);
        due.is("all", x.fill(0, 1, 0, 40, MAX), 40);
        due.is("the first", Due.read(x, 0, 1, 0), MAX);
        due.is("numbers go round", Due.read(x, 0, 1, 1), MIN);
        due.is("the last", Due.read(x, 0, 1, 39), MIN + 38);
        due.is("the other volume", Due.read(x, 0, 0, 39), 5);
        due.is("length", x.state(0, 2), 41);
        int[][] bad = {{0, 0, 0, 0}, {0, 0, 0, -1}, {0, 0, 0, 41}, {0, 0, 1, 40}, {0, 0, 39, 2}, {0, 0, 40, 1},
            {0, 0, -1, 2}, {0, 2, 0, 1}, {0, -1, 0, 1}, {1, 0, 0, 1}, {-1, 0, 0, 1}, {8, 0, 0, 1}, {0, 0, 0, 4097},
            {0, 0, 0, MAX}, {0, 0, 39, MAX}, {0, 0, 0, MIN}, {4, 0, 0, 0}, {4, 0, 0, 41}};
        for (int[] b : bad) {
            due.is("fill " + b[0] + ", " + b[1] + ", " + b[2] + ", " + b[3], x.fill(b[0], b[1], b[2], b[3], 1), -2);
        }
        due.is("of a copy", x.fill(4, 0, 0, 40, 1), -4);
        x.crash(0);
        due.is("down", x.fill(0, 0, 0, 1, 1), -3);
        due.is("bad and down", x.fill(0, 0, 0, 0, 1), -2);
        due.is("made", x.total(2), 41);
        TwinVaults y = made(8192, 1, 4096);
        due.is("the most", y.fill(0, 0, 0, 4096, 0), 4096);
    }

    private static void fillThatIsCutShort() {
        TwinVaults x = made(16, 1, 30);
        due.is("till no block is free", x.fill(0, 0, 0, 20, 1), 16);
        due.is("at once", x.fill(0, 0, 16, 2, 1), -6);
        TwinVaults y = made(200, 1, 100);
        y.power(0, 3);
        due.is("till power fails", y.fill(0, 0, 0, 70, 1), 64);
        due.is("down", y.total(10), 0);
        due.is("safe", y.state(0, 3), 24);
        due.is("lost", y.up(0), 40);
        TwinVaults z = made(200, 1, 100);
        z.fill(0, 0, 0, 64, 1);
        z.power(0, 0);
        due.is("power fails at once", z.fill(0, 0, 0, 3, 1), -3);
    }

    private static void flush() {
        TwinVaults x = made(200, 1, 100);
        due.is("of nothing", x.flush(0), 0);
        due.is("no acts", x.total(11), 0);
        x.fill(0, 0, 0, 17, 1);
        due.is("of 17", x.flush(0), 17);
        due.is("three acts", x.total(11), 3);
        due.is("safe", x.state(0, 3), 17);
        due.is("kept", x.state(0, 4), 0);
        due.is("again", x.flush(0), 17);
        due.is("no more acts", x.total(11), 3);
        x.fill(0, 0, 0, 8, 1);
        due.is("of 8", x.flush(0), 25);
        due.is("one act", x.total(11), 4);
        x.checkpoint(0);
        due.is("the journal is empty", x.flush(0), 0);
        x.fill(0, 0, 0, 20, 1);
        x.power(0, 2);
        due.is("power fails", x.flush(0), -3);
        due.is("two eights are safe", x.state(0, 3), 41);
        due.is("down", x.flush(0), -3);
        due.is("lost", x.up(0), 4);
        due.is("the journal", x.flush(0), 16);
        due.is("of a copy", x.flush(4), 0);
        for (int h : new int[] {-1, 1, 3, 5, 8, MIN, MAX}) {
            due.is("flush " + h, x.flush(h), -2);
        }
    }

    private static void flushThatIsACheckpoint() {
        TwinVaults x = made(2000, 1, 1000);
        x.fill(0, 0, 0, 512, 1);
        due.is("safe before", x.state(0, 3), 448);
        due.is("512 in all", x.flush(0), 512);
        due.is("none is kept", x.state(0, 4), 0);
        due.is("acts", x.total(11), 64);
        x.write(0, 0, 512, 1);
        // 513 places from 0 on: 33 of 16 each, 3 of 256 each, a volume, and the last act.
        due.is("513 in all", x.flush(0), 0);
        due.is("all are kept", x.state(0, 4), 513);
        due.is("acts then", x.total(11), 64 + 33 + 3 + 1 + 1);
        TwinVaults y = made(2000, 1, 1000);
        due.is("577", y.fill(0, 0, 0, 577, 1), 577);
        due.is("kept by the 577th", y.state(0, 4), 576);
        due.is("acts by it", y.total(11), 64 + 36 + 3 + 1 + 1);
        TwinVaults z = made(2000, 1, 1000);
        z.fill(0, 0, 0, 576, 1);
        z.power(0, 40);
        due.is("power fails at the last act", z.write(0, 0, 0, 1), -3);
        due.is("none is kept", z.state(0, 4), 0);
        due.is("safe", z.state(0, 3), 512);
        due.is("lost", z.up(0), 64);
    }

    private static void checkpoint() {
        TwinVaults x = made(500, 3, 600);
        due.is("of nothing", x.checkpoint(0), 0);
        x.write(0, 0, 15, 1);
        // (0, 0), (0, 0), 0: three nodes, and one more.
        due.is("of one", x.checkpoint(0), 4);
        due.is("acts", x.total(11), 4);
        due.is("again", x.checkpoint(0), 0);
        x.write(0, 0, 15, 2);
        x.write(0, 0, 16, 2);
        x.write(0, 0, 256, 2);
        x.write(0, 0, 15, 3);
        x.write(0, 2, 0, 2);
        x.write(0, 2, 599, 2);
        // By 16: 0.0, 0.1, 0.16, 2.0, 2.37; by 256: 0.0, 0.1, 2.0, 2.2; volumes: 0, 2; and one more.
        due.is("of six", x.checkpoint(0), 12);
        due.is("safe", x.state(0, 3), 7);
        due.is("kept", x.state(0, 4), 7);
        x.write(0, 1, 0, 1);
        x.flush(0);
        x.power(0, 3);
        due.is("power fails at the last one", x.checkpoint(0), -3);
        due.is("kept as before", x.state(0, 4), 7);
        due.is("acts", x.total(11), 20);
        due.is("down", x.checkpoint(0), -3);
        x.up(0);
        x.power(0, 4);
        due.is("power lasts", x.checkpoint(0), 4);
        due.is("kept", x.state(0, 4), 8);
        due.is("none left", x.total(13), 0);
        due.is("needs none", x.checkpoint(0), 0);
        due.is("still up", x.total(10), 1);
        due.is("of a copy", x.checkpoint(4), 0);
        for (int h : new int[] {-1, 1, 5, 8, MIN, MAX}) {
            due.is("checkpoint " + h, x.checkpoint(h), -2);
        }
    }

    /** As many places anywhere in the largest group as fit between two checkpoints, their NODES counted by a set. */
    private static void nodesOfManyPlaces() {
        for (int seed = 0; seed < 20; seed++) {
            Random chance = new Random(seed);
            TwinVaults x = made(8192, 8, 4096);
            Set<String> nodes = new TreeSet<>();
            int n = 1 + chance.nextInt(500);
            for (int i = 0; i < n; i++) {
                int volume = chance.nextInt(8);
                int place = chance.nextInt(4096);
                x.write(0, volume, place, i);
                nodes.add(volume + " by 16 " + place / 16);
                nodes.add(volume + " by 256 " + place / 256);
                nodes.add(volume + " itself");
            }
            due.is("acts for " + n + " places, seed " + seed, x.checkpoint(0), nodes.size() + 1);
        }
    }

    private static void snapshot() {
        TwinVaults x = made(64, 1, 40);
        due.is("of nothing", x.snapshot(0), 0);
        due.is("no act", x.total(11), 0);
        x.write(0, 0, 3, 7);
        due.is("the first", x.snapshot(0), 4097);
        due.is("acts", x.total(11), 5);
        due.is("taken", x.state(0, 24), 1);
        due.is("nothing new", x.snapshot(0), 0);
        due.is("no act", x.total(11), 5);
        x.write(0, 0, 3, 7);
        x.checkpoint(0);
        due.is("the second", x.snapshot(0), 4098);
        due.is("one act more", x.total(11), 10);
        due.is("latest", x.state(0, 6), 4098);
        due.is("two", x.state(0, 5), 2);
        for (int i = 0; i < 2; i++) {
            x.write(0, 0, i, i);
            x.snapshot(0);
        }
        due.is("three are kept", x.state(0, 5), 3);
        due.is("the oldest of them", x.snap(0, 0, 0), 4098);
        due.is("taken in all", x.state(0, 24), 4);
        due.is("of a copy", x.snapshot(4), -4);
        x.crash(1);
        due.is("of a copy that is down", x.snapshot(4), -3);
        x.crash(0);
        due.is("down", x.snapshot(0), -3);
        for (int h : new int[] {-1, 1, 5, 8, MIN, MAX}) {
            due.is("snapshot " + h, x.snapshot(h), -2);
        }
    }

    private static void snapshotThatIsCutShort() {
        TwinVaults x = made(64, 1, 40);
        x.write(0, 0, 3, 7);
        x.power(0, 4);
        due.is("power fails behind the checkpoint", x.snapshot(0), -3);
        due.is("kept", x.state(0, 4), 1);
        due.is("no snapshot", x.state(0, 5), 0);
        due.is("none taken", x.state(0, 24), 0);
        due.is("nothing is lost", x.up(0), 0);
        due.is("again", x.snapshot(0), 4097);
        due.is("by one act", x.total(11), 5);
    }

    /** No object is used for so many calls: all but the last two are set as taken. */
    private static void snapshotAtTheLimit() {
        TwinVaults x = made(64, 1, 40);
        x.write(0, 0, 3, 1);
        x.snapshot(0);
        Inside.set(Inside.store(x, 0), "taken", 4093);
        x.write(0, 0, 3, 2);
        due.is("the last but one", x.snapshot(0), 4096 + 4094);
        x.write(0, 0, 3, 3);
        due.is("the last one", x.snapshot(0), 4096 + 4095);
        x.write(0, 0, 3, 4);
        int acts = x.total(11);
        due.is("one more", x.snapshot(0), -5);
        due.is("leave", x.leave(0), -5);
        due.is("no act", x.total(11), acts);
        due.is("of a copy", x.snapshot(4), -4);
        x.period(1);
        x.tick();
        due.is("a tick takes none", x.state(0, 24), 4095);
        due.is("but it offers", x.state(0, 8), 8191);
        x.crash(0);
        due.is("down", x.snapshot(0), -3);
        x.up(0);
        due.is("leave with nothing new", x.leave(0), 8191);
    }
}
