/** Promises 12 to 16: period, tick, power, crash, up. */
public final class TimeTest {
    private static final Due due = new Due();
    private static final int MIN = Integer.MIN_VALUE, MAX = Integer.MAX_VALUE;

    public static void main(String[] args) {
        period();
        tick();
        tickOffersAgain();
        tickGoesBySites();
        tickThatIsCutShort();
        power();
        powerInACommit();
        crash();
        up();
        upForgets();
        due.end("TimeTest");
    }

    private static TwinVaults made(int groups) {
        TwinVaults x = new TwinVaults(64, 3, 2);
        for (int g = 0; g < groups; g++) {
            x.group(1, 40);
        }
        return x;
    }

    private static void period() {
        TwinVaults x = made(1);
        for (int n : new int[] {-1, 1001, MIN, MAX, -2}) {
            due.is("period " + n, x.period(n), false);
        }
        for (int n : new int[] {0, 1, 1000, 3}) {
            due.is("period " + n, x.period(n), true);
        }
        due.is("refused", x.period(1001), false);
        for (int t = 1; t <= 9; t++) {
            if (t != 5 && t != 6) {
                x.write(0, 0, 0, t);
            }
            if (t == 5) {
                x.snapshot(0);
            }
            x.tick();
            // Snapshots: at 3; by hand before 5; none at 6, for nothing is new; at 9.
            due.is("taken at " + t, x.state(0, 24), t < 3 ? 0 : t < 5 ? 1 : t < 9 ? 2 : 3);
        }
        x.period(0);
        x.write(0, 0, 0, 1);
        for (int t = 10; t <= 14; t++) {
            x.tick();
        }
        due.is("no period any more", x.state(0, 24), 3);
        x.period(1);
        x.tick();
        due.is("each tick", x.state(0, 24), 4);
    }

    private static void tick() {
        TwinVaults x = made(1);
        due.is("first", x.tick(), 1);
        due.is("nothing is sent", x.total(4), 0);
        due.is("no act", x.total(11) + x.total(21), 0);
        x.write(0, 0, 0, 5);
        due.is("second", x.tick(), 2);
        due.is("a write alone is not sent", x.total(4), 0);
        x.snapshot(0);
        int acts = x.total(11);
        due.is("third", x.tick(), 3);
        due.is("an act", x.total(11), acts + 1);
        Runs.message(due, x, 0, 1, 0, 1, 0, 4097, 1, 1, 0);
        Runs.state(due, x, "offered", 0, 8, 4097, 12, 0, 13, 1, 16, 0);
        x.write(0, 0, 0, 6);
        x.snapshot(0);
        due.is("fourth", x.tick(), 4);
        Runs.state(due, x, "the target stays", 0, 8, 4097, 16, 1);
        Runs.passAll(x);
        Runs.state(due, x, "it has that one", 0, 7, 4097, 8, 0, 12, 4097, 13, 0, 16, 0);
        due.is("fifth", x.tick(), 5);
        Runs.message(due, x, 0, 1, 0, 1, 4097, 4098, 1, 2, 0);
        due.is("time", x.total(0), 5);
    }

    private static void tickOffersAgain() {
        TwinVaults x = made(1);
        x.write(0, 0, 0, 5);
        x.snapshot(0);
        x.tick();
        for (int i = 1; i < 8; i++) {
            x.tick();
            due.is("wait", x.state(0, 16), i);
            due.is("one offer", x.total(4), 1);
        }
        int acts = x.total(11);
        x.tick();
        due.is("wait from anew", x.state(0, 16), 0);
        due.is("a second offer", x.total(4), 2);
        due.is("without an act", x.total(11), acts);
        Runs.message(due, x, 1, 1, 0, 1, 0, 4097, 1, 1, 0);
        // An ACCEPT puts WAIT to 0 and PHASE to 2; when nothing more comes it offers anew.
        x.tick();
        x.pass(0, 1);
        x.pass(1, 1);
        Runs.state(due, x, "accepted", 0, 13, 2, 14, 0, 15, 1, 16, 0);
        for (int i = 0; i < 8; i++) {
            x.tick();
        }
        Runs.state(due, x, "offered anew", 0, 13, 1, 16, 0, 15, 1);
    }

    private static void tickGoesBySites() {
        TwinVaults x = made(4);
        x.force(5);
        x.force(7);
        for (int h = 0; h < 4; h++) {
            x.write(h, 0, 0, 1);
            x.snapshot(h);
        }
        x.tick();
        int[] order = {0, 1, 2, 3, 5, 7};
        due.is("offers", x.total(3), order.length);
        for (int i = 0; i < order.length; i++) {
            due.is("offer " + i, x.message(i, 1), order[i]);
        }
        TwinVaults y = made(2);
        y.write(0, 0, 0, 1);
        y.snapshot(0);
        y.crash(0);
        y.force(5);
        due.is("time goes on", y.tick(), 1);
        due.is("of the site that is up", y.total(3), 1);
        due.is("its store", y.message(0, 1), 5);
    }

    private static void tickThatIsCutShort() {
        TwinVaults x = made(3);
        x.period(1);
        for (int h = 0; h < 3; h++) {
            x.write(h, 0, 0, 1);
        }
        x.force(4);
        // Store 0: five acts for the snapshot, one to offer; store 1: its snapshot, but no offer.
        x.power(0, 11);
        due.is("time", x.tick(), 1);
        due.is("down", x.total(10), 0);
        Runs.state(due, x, "offered", 0, 6, 4097, 8, 4097, 13, 1);
        Runs.state(due, x, "taken alone", 1, 6, 4097, 8, 0, 13, 0);
        Runs.state(due, x, "untouched", 2, 6, 0, 4, 0);
        due.is("site 1 goes on", x.total(3), 2);
        due.is("its offer", x.message(1, 1), 4);
        due.is("lost", x.up(0), 1);
    }

    private static void power() {
        TwinVaults x = made(1);
        int[][] bad = {{-1, 0}, {2, 0}, {MIN, 0}, {MAX, 0}, {0, -2}, {0, 100001}, {1, MIN}, {1, MAX}};
        for (int[] b : bad) {
            due.is("power " + b[0] + ", " + b[1], x.power(b[0], b[1]), false);
        }
        due.is("none is set", x.total(13) + x.total(23), -2);
        due.is("the most", x.power(1, 100000), true);
        due.is("told", x.total(23), 100000);
        due.is("of that site alone", x.total(13), -1);
        due.is("no more", x.power(1, -1), true);
        due.is("told", x.total(23), -1);
        due.is("two", x.power(0, 2), true);
        x.fill(0, 0, 0, 16, 1);
        due.is("two acts", x.flush(0), 16);
        due.is("none is left", x.total(13), 0);
        due.is("up", x.total(10), 1);
        x.write(0, 0, 0, 1);
        due.is("a write is no act", x.total(10), 1);
        due.is("the next act", x.flush(0), -3);
        due.is("down", x.total(10), 0);
        due.is("spent", x.total(13), -1);
        due.is("acts done", x.total(11), 2);
        due.is("set while it is down", x.power(0, 1), true);
        due.is("told", x.total(13), 1);
        x.up(0);
        due.is("still set", x.total(13), 1);
        x.write(0, 0, 0, 1);
        due.is("one act", x.flush(0), 17);
        x.power(0, 7);
        x.power(0, -1);
        x.write(0, 0, 0, 1);
        due.is("it does not fail", x.checkpoint(0), 4);
        due.is("told", x.total(13), -1);
    }

    private static void powerInACommit() {
        // One write: the copy stages it, has it staged, and commits by three nodes and one more act.
        for (int n = 0; n < 6; n++) {
            TwinVaults x = made(1);
            x.write(0, 0, 20, 5);
            x.snapshot(0);
            x.tick();
            x.power(1, n);
            Runs.passAll(x);
            due.is("down with " + n, x.total(20), 0);
            due.is("acts done with " + n, x.total(21), n);
            Runs.state(due, x, "with " + n, 4, 5, 0, 2, 0, 20, n < 1 ? 0 : 4097, 18, n < 2 ? 0 : 1, 19, n < 2 ? 0 : 1,
                    23, n < 2 ? 0 : 1);
            due.is("nothing is lost", x.up(1), 0);
            Runs.state(due, x, "what is staged stays, with " + n, 4, 18, n < 2 ? 0 : 1, 20, n < 1 ? 0 : 4097);
            Runs.settle(x, 8);
            Runs.state(due, x, "in the end, with " + n, 4, 5, 1, 6, 4097, 2, 1, 18, 0, 19, 0, 20, 0, 23, 1);
            due.is("told to the sender, with " + n, x.state(0, 7), 4097);
            int acts = n == 0 ? 6 : n == 1 ? 6 : n + 4;
            due.is("acts in the end, with " + n, x.total(21), acts);
        }
    }

    private static void crash() {
        TwinVaults x = made(1);
        for (int site : new int[] {-1, 2, MIN, MAX}) {
            due.is("crash " + site, x.crash(site), false);
        }
        x.power(0, 5);
        due.is("crash", x.crash(0), true);
        due.is("down", x.total(10), 0);
        due.is("power is spent", x.total(13), -1);
        due.is("no act", x.total(11), 0);
        due.is("the other is up", x.total(20), 1);
        x.power(0, 6);
        due.is("again", x.crash(0), false);
        due.is("it changes nothing", x.total(13), 6);
        due.is("the other", x.crash(1), true);
        due.is("down", x.total(20), 0);
    }

    private static void up() {
        TwinVaults x = made(2);
        for (int site : new int[] {-1, 2, MIN, MAX}) {
            due.is("up " + site, x.up(site), -2);
        }
        due.is("it is up", x.up(0), -1);
        x.fill(0, 0, 0, 10, 1);
        x.flush(0);
        x.fill(0, 0, 0, 3, 50);
        x.write(0, 0, 30, 51);
        x.fill(1, 0, 0, 5, 1);
        x.crash(0);
        Runs.state(due, x, "told as it was", 0, 2, 14, 3, 10, 23, 11);
        due.is("up", x.up(0), 9);
        Runs.state(due, x, "up", 0, 2, 10, 3, 10, 23, 10);
        Runs.state(due, x, "up", 1, 2, 0, 23, 0);
        due.is("what was safe", Due.read(x, 0, 0, 2), 3);
        due.is("what was not", Due.read(x, 0, 0, 30), 0);
        due.is("free", x.total(12), 54);
        due.is("no act", x.total(11), 2);
        x.crash(1);
        due.is("the other", x.up(1), 0);
        due.is("it is up", x.up(1), -1);
    }

    private static void upForgets() {
        TwinVaults x = made(1);
        x.write(0, 0, 0, 1);
        x.snapshot(0);
        Runs.settle(x, 1);
        x.fill(0, 0, 0, 30, 2);
        x.snapshot(0);
        x.tick();
        x.pass(0, 1);
        x.pass(0, 1);
        x.pass(0, 1);
        x.pass(1, 1);
        x.tick();
        Runs.state(due, x, "sending", 0, 8, 4098, 12, 4097, 13, 2, 14, 1, 15, 3, 16, 1);
        x.crash(0);
        Runs.state(due, x, "told as it was", 0, 8, 4098, 12, 4097, 13, 2, 14, 1, 15, 3, 16, 1);
        x.up(0);
        Runs.state(due, x, "up", 0, 0, 1, 1, 1, 7, 4097, 8, 4098, 12, 4097, 13, 0, 14, 0, 15, 0, 16, 0);
        // DATA is in flight still; what the copy says to it finds PHASE 0.
        Runs.passAll(x);
        Runs.state(due, x, "what it has", 4, 18, 3, 19, 12, 20, 4098);
        Runs.state(due, x, "no phase", 0, 13, 0, 14, 0);
        for (int i = 0; i < 8; i++) {
            x.tick();
        }
        x.pass(0, 1);
        Runs.message(due, x, 0, 2, 4, 1, 4097, 4098, 3, 0, 0);
        x.pass(0, 1);
        Runs.state(due, x, "from there on", 0, 13, 2, 14, 3, 15, 5);
    }
}
