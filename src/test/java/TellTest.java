import java.util.Map;
import java.util.Random;
import java.util.TreeMap;

/** Promises 20 to 27: read, old, sum, differ, state, snap, lost, total. */
public final class TellTest {
    private static final Due due = new Due();
    private static final int MIN = Integer.MIN_VALUE, MAX = Integer.MAX_VALUE;
    private static final long OUT = Due.OUT_OF_BOUNDS, DARK = Due.ILLEGAL_STATE;

    public static void main(String[] args) {
        read();
        old();
        sum();
        differ();
        state();
        snap();
        lost();
        lostOfManyPlaces();
        total();
        tellingChangesNothing();
        due.end("TellTest");
    }

    /** Two volumes of 20 places, and three snapshots: of two writes, of five, of five again behind a way there. */
    private static TwinVaults made() {
        TwinVaults x = new TwinVaults(100, 4, 8);
        x.group(2, 20);
        x.write(0, 0, 3, 7);
        x.write(0, 1, 19, 8);
        x.snapshot(0);
        x.write(0, 0, 3, 9);
        x.write(0, 0, 4, -1);
        x.write(0, 0, 3, 10);
        x.snapshot(0);
        x.write(0, 1, 0, 5);
        x.snapshot(0);
        x.write(0, 0, 3, 11);
        return x;
    }

    private static void read() {
        TwinVaults x = made();
        due.is("pending", Due.read(x, 0, 0, 3), 11);
        due.is("kept", Due.read(x, 0, 0, 4), -1);
        due.is("the last place", Due.read(x, 0, 1, 19), 8);
        due.is("never written", Due.read(x, 0, 1, 3), 0);
        due.is("of the copy", Due.read(x, 4, 0, 3), 0);
        int[][] bad = {{-1, 0, 0}, {8, 0, 0}, {1, 0, 0}, {5, 0, 0}, {MIN, 0, 0}, {MAX, 0, 0}, {0, -1, 0}, {0, 2, 0},
            {0, MIN, 0}, {0, MAX, 0}, {0, 0, -1}, {0, 0, 20}, {0, 0, MIN}, {0, 0, MAX}};
        for (int[] b : bad) {
            due.is("read " + b[0] + ", " + b[1] + ", " + b[2], Due.read(x, b[0], b[1], b[2]), OUT);
        }
        x.crash(0);
        due.is("down", Due.read(x, 0, 0, 3), DARK);
        due.is("down and bad", Due.read(x, 0, 0, 20), OUT);
        due.is("the other is up", Due.read(x, 4, 0, 3), 0);
        x.up(0);
        due.is("what was pending", Due.read(x, 0, 0, 3), 10);
    }

    private static void old() {
        TwinVaults x = made();
        int[][] held = {{7, 0, 8, 0}, {10, -1, 8, 0}, {10, -1, 8, 5}};
        for (int k = 0; k < 3; k++) {
            due.is("place 3 in " + k, Due.old(x, 0, k, 0, 3), held[k][0]);
            due.is("place 4 in " + k, Due.old(x, 0, k, 0, 4), held[k][1]);
            due.is("place 19 in " + k, Due.old(x, 0, k, 1, 19), held[k][2]);
            due.is("place 0 in " + k, Due.old(x, 0, k, 1, 0), held[k][3]);
        }
        int[][] bad = {{0, 3, 0, 0}, {0, -1, 0, 0}, {0, MIN, 0, 0}, {0, MAX, 0, 0}, {4, 0, 0, 0}, {1, 0, 0, 0},
            {-1, 0, 0, 0}, {8, 0, 0, 0}, {0, 0, 2, 0}, {0, 0, -1, 0}, {0, 0, 0, 20}, {0, 0, 0, -1}};
        for (int[] b : bad) {
            due.is("old " + b[0] + ", " + b[1] + ", " + b[2] + ", " + b[3], Due.old(x, b[0], b[1], b[2], b[3]), OUT);
        }
        x.crash(0);
        due.is("down", Due.old(x, 0, 0, 0, 3), DARK);
        due.is("down and bad", Due.old(x, 0, 3, 0, 3), OUT);
        x.up(0);
        Runs.settle(x, 1);
        due.is("of the copy", Due.old(x, 4, 0, 0, 3), 10);
    }

    private static void sum() {
        TwinVaults x = made();
        int first = 0;
        int second = 0;
        for (int place = 0; place < 20; place++) {
            first = 31 * first + (place == 3 ? 11 : place == 4 ? -1 : 0);
            second = 31 * second + (place == 0 ? 5 : place == 19 ? 8 : 0);
        }
        due.is("volume 0", Due.sum(x, 0, 0), first);
        due.is("volume 1", Due.sum(x, 0, 1), second);
        due.is("of nothing", Due.sum(x, 4, 1), 0);
        int[][] bad = {{0, 2}, {0, -1}, {0, MIN}, {0, MAX}, {1, 0}, {-1, 0}, {8, 0}, {MIN, 0}, {MAX, 0}};
        for (int[] b : bad) {
            due.is("sum " + b[0] + ", " + b[1], Due.sum(x, b[0], b[1]), OUT);
        }
        x.crash(0);
        due.is("down", Due.sum(x, 0, 0), DARK);
        due.is("down and bad", Due.sum(x, 0, 2), OUT);
        TwinVaults y = new TwinVaults(100, 2, 1);
        y.group(1, 2);
        y.write(0, 0, 0, 3);
        y.write(0, 0, 1, 4);
        due.is("31 * 3 + 4", Due.sum(y, 0, 0), 97);
    }

    private static void differ() {
        TwinVaults x = made();
        int[][] want = {{0, 0, 0}, {1, 1, 0}, {0, 1, 2}, {1, 2, 1}, {0, 2, 3}};
        for (int[] w : want) {
            due.is("differ " + w[0] + ", " + w[1], Due.differ(x, 0, w[0], w[1]), w[2]);
        }
        int[][] bad = {{0, 1, 0}, {0, 2, 1}, {0, -1, 0}, {0, 0, 3}, {0, 3, 3}, {0, MIN, 0}, {0, 0, MAX}, {4, 0, 0},
            {1, 0, 0}, {-1, 0, 0}, {8, 0, 0}};
        for (int[] b : bad) {
            due.is("differ " + b[0] + ", " + b[1] + ", " + b[2], Due.differ(x, b[0], b[1], b[2]), OUT);
        }
        // A place that is written with what it held is WRITTEN all the same.
        x.write(0, 0, 3, 11);
        x.snapshot(0);
        due.is("the same again", Due.differ(x, 0, 2, 3), 1);
        x.crash(0);
        due.is("down", Due.differ(x, 0, 0, 1), DARK);
        due.is("down and bad", Due.differ(x, 0, 1, 0), OUT);
    }

    private static void state() {
        TwinVaults x = made();
        Runs.state(due, x, "primary", 0, 0, 1, 1, 1, 2, 7, 3, 6, 4, 6, 5, 3, 6, 4099, 7, 0, 8, 0, 9, 0, 10, 0, 11, 0, 12,
                0, 13, 0, 14, 0, 15, 0, 16, 0, 17, 0, 18, 0, 19, 0, 20, 0, 21, 0, 22, 0, 23, 6, 24, 3);
        for (int what : new int[] {-1, 25, MIN, MAX}) {
            due.is("state 0, " + what, x.state(0, what), -2);
        }
        for (int h : new int[] {-1, 8, 1, 5, MIN, MAX}) {
            due.is("state " + h, x.state(h, 0), -2);
        }
        x.flush(0);
        Runs.state(due, x, "flushed", 0, 2, 7, 3, 7, 4, 6);
        x.tick();
        x.pass(0, 1);
        x.pass(0, 1);
        Runs.state(due, x, "sending", 0, 8, 4099, 13, 2, 14, 0, 15, 1);
        Runs.state(due, x, "staging", 4, 0, 0, 18, 0, 19, 0, 20, 4099);
        x.crash(0);
        x.crash(1);
        Runs.state(due, x, "down", 0, 0, 1, 8, 4099, 13, 2, 15, 1, 23, 6);
        Runs.state(due, x, "down", 4, 20, 4099);
        x.up(0);
        x.up(1);
        Runs.passAll(x);
        // Four places are written in the line of 4099: 0.3, 0.4, 1.0, 1.19.
        Runs.state(due, x, "the copy", 4, 2, 6, 3, 6, 4, 6, 5, 1, 6, 4099, 23, 4, 24, 0);
    }

    private static void snap() {
        TwinVaults x = made();
        int[][] want = {{4097, 2}, {4098, 5}, {4099, 6}};
        for (int k = 0; k < 3; k++) {
            due.is("id " + k, x.snap(0, k, 0), want[k][0]);
            due.is("length " + k, x.snap(0, k, 1), want[k][1]);
        }
        int[][] bad = {{0, 3, 0}, {0, -1, 0}, {0, MIN, 0}, {0, MAX, 0}, {0, 0, 2}, {0, 0, -1}, {0, 0, MIN}, {0, 0, MAX},
            {4, 0, 0}, {1, 0, 0}, {-1, 0, 0}, {8, 0, 0}};
        for (int[] b : bad) {
            due.is("snap " + b[0] + ", " + b[1] + ", " + b[2], x.snap(b[0], b[1], b[2]), -2);
        }
        x.crash(0);
        due.is("down", x.snap(0, 1, 0), 4098);
    }

    private static void lost() {
        TwinVaults x = made();
        due.is("nothing yet", Due.lost(x, 0, 0, 0), OUT);
        Runs.settle(x, 1);
        x.write(0, 1, 19, 70);
        x.write(0, 0, 19, 71);
        x.write(0, 1, 2, 72);
        x.write(0, 1, 19, 73);
        x.force(4);
        x.tick();
        x.pass(0, 1);
        x.back(0);
        x.pass(0, 1);
        x.pass(0, 1);
        // Behind 4099: 11 in place 3 of volume 0, and the four writes.
        due.is("how many", x.state(0, 22), 4);
        Runs.lost(due, x, 0, 0, 0, 3, 11);
        Runs.lost(due, x, 0, 1, 0, 19, 71);
        Runs.lost(due, x, 0, 2, 1, 2, 72);
        Runs.lost(due, x, 0, 3, 1, 19, 73);
        due.is("read", Due.read(x, 0, 0, 3), 10);
        int[][] bad = {{0, 4, 0}, {0, -1, 0}, {0, MIN, 0}, {0, MAX, 0}, {0, 0, 3}, {0, 0, -1}, {0, 0, MIN}, {0, 0, MAX},
            {4, 0, 0}, {1, 0, 0}, {-1, 0, 0}, {8, 0, 0}};
        for (int[] b : bad) {
            due.is("lost " + b[0] + ", " + b[1] + ", " + b[2], Due.lost(x, b[0], b[1], b[2]), OUT);
        }
        x.crash(0);
        Runs.lost(due, x, 0, 2, 1, 2, 72);
        x.up(0);
        Runs.lost(due, x, 0, 3, 1, 19, 73);
        // The next way back tells its own.
        Runs.settle(x, 9);
        x.leave(4);
        Runs.settle(x, 3);
        due.is("primary again", x.state(0, 0), 1);
        x.write(0, 0, 0, 80);
        x.force(4);
        x.tick();
        Runs.passAll(x);
        due.is("fenced again", x.state(0, 0), 3);
        due.is("told till then", x.state(0, 22), 4);
        x.back(0);
        Runs.passAll(x);
        due.is("way back again", x.state(0, 0), 0);
        due.is("one", x.state(0, 22), 1);
        Runs.lost(due, x, 0, 0, 0, 0, 80);
        due.is("no second", Due.lost(x, 0, 1, 0), OUT);
    }

    /** Written in any order, they are told by volumes, then places. */
    private static void lostOfManyPlaces() {
        for (int seed = 0; seed < 20; seed++) {
            Random chance = new Random(seed);
            TwinVaults x = new TwinVaults(8192, 2, 8);
            x.group(8, 4096);
            Map<Integer, Integer> want = new TreeMap<>();
            for (int i = 0; i < 120; i++) {
                int volume = chance.nextInt(8);
                int place = chance.nextInt(seed < 10 ? 4096 : 20);
                x.write(0, volume, place, i);
                want.put(4096 * volume + place, i);
            }
            x.force(4);
            x.tick();
            x.pass(0, 1);
            x.back(0);
            x.pass(0, 1);
            x.pass(0, 1);
            due.is("how many, seed " + seed, x.state(0, 22), want.size());
            int i = 0;
            for (Map.Entry<Integer, Integer> one : want.entrySet()) {
                Runs.lost(due, x, 0, i, one.getKey() / 4096, one.getKey() % 4096, one.getValue());
                i++;
            }
            due.is("none behind the last, seed " + seed, Due.lost(x, 0, i, 0), OUT);
        }
    }

    private static void total() {
        TwinVaults x = made();
        int[] want = {0, 1, 7, 0, 0, 0};
        for (int what = 0; what < 6; what++) {
            due.is("total " + what, x.total(what), want[what]);
        }
        // Three snapshots: of 0.3, 1.19 (by 16: 2, by 256: 2, volumes: 2); of 0.3, 0.4; of 1.0.
        due.is("acts", x.total(11), 7 + 1 + 4 + 1 + 4 + 1);
        due.is("free", x.total(12), 94);
        due.is("of site 1", x.total(22), 100);
        for (int what : new int[] {-1, 6, 7, 8, 9, 14, 15, 19, 24, 25, 30, MIN, MAX}) {
            due.is("total " + what, x.total(what), -1);
        }
        x.tick();
        x.pass(0, 2);
        due.is("time", x.total(0), 1);
        due.is("in flight", x.total(3), 2);
        due.is("sent", x.total(4), 2);
        due.is("acts of site 1", x.total(21), 1);
        x.power(1, 17);
        due.is("power of site 1", x.total(23), 17);
        due.is("power of site 0", x.total(13), -1);
        x.crash(0);
        due.is("site 0", x.total(10), 0);
        due.is("site 1", x.total(20), 1);
        due.is("free while it is down", x.total(12), 94);
    }

    private static void tellingChangesNothing() {
        TwinVaults x = made();
        TwinVaults y = made();
        for (int round = 0; round < 12; round++) {
            for (int h = 0; h < 8; h++) {
                Due.read(x, h, 0, 3);
                Due.old(x, h, 1, 0, 3);
                Due.sum(x, h, 0);
                Due.differ(x, h, 0, 1);
                x.snap(h, 0, 0);
                Due.lost(x, h, 0, 0);
            }
            Due.item(x, 0, 0, 0);
            for (int h = 0; h < 8; h++) {
                for (int what = 0; what < 25; what++) {
                    due.is("state of both", x.state(h, what), y.state(h, what));
                }
            }
            for (int what = 0; what < 24; what++) {
                due.is("total of both", x.total(what), y.total(what));
            }
            x.tick();
            y.tick();
            x.pass(0, 1);
            y.pass(0, 1);
        }
    }
}
