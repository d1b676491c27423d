/** Promises 17 to 19: pass, message, item; and how a difference goes over the link. */
public final class LinkTest {
    private static final Due due = new Due();
    private static final int MIN = Integer.MIN_VALUE, MAX = Integer.MAX_VALUE;

    public static void main(String[] args) {
        pass();
        passToASiteThatIsDown();
        message();
        item();
        atMostSixty();
        chunks();
        dataTurnedRound();
        differenceBehindABase();
        offersThatAreOld();
        refused();
        poolOfTheCopy();
        commitThins();
        due.end("LinkTest");
    }

    private static TwinVaults made(int pool, int window) {
        TwinVaults x = new TwinVaults(pool, 2, window);
        x.group(2, 60);
        return x;
    }

    private static void offered(TwinVaults x, int n) {
        x.fill(0, 1, 0, n, 100);
        x.snapshot(0);
        x.tick();
    }

    private static void pass() {
        TwinVaults x = made(200, 2);
        due.is("none in flight", x.pass(0, 1), -1);
        offered(x, 3);
        int[][] bad = {{-1, 1}, {1, 1}, {MIN, 1}, {MAX, 1}, {0, -1}, {0, 3}, {0, MIN}, {0, MAX}};
        for (int[] b : bad) {
            due.is("pass " + b[0] + ", " + b[1], x.pass(b[0], b[1]), -1);
        }
        due.is("in flight still", x.total(3), 1);
        due.is("nothing was received", x.total(21), 0);
        due.is("doubled", x.pass(0, 2), 1);
        due.is("it stays, the answer is behind it", x.message(0, 0), 1);
        due.is("the answer", x.message(1, 0), 2);
        due.is("received", x.total(21), 1);
        due.is("doubled again", x.pass(0, 2), 1);
        due.is("a second answer", x.total(3), 3);
        due.is("without an act", x.total(21), 1);
        due.is("lost", x.pass(0, 0), 1);
        due.is("it is gone", x.total(3), 2);
        due.is("first is an answer", x.message(0, 0), 2);
        due.is("not counted as lost for room", x.total(5), 0);
        due.is("the last one first", x.pass(1, 1), 1);
        due.is("it left", x.total(3), 2);
        due.is("what it brought is behind", x.message(1, 0), 3);
        due.is("sent in all", x.total(4), 4);
    }

    private static void passToASiteThatIsDown() {
        TwinVaults x = made(200, 2);
        offered(x, 3);
        x.crash(1);
        due.is("it stays", x.pass(0, 2), 1);
        due.is("nothing is staged", x.state(4, 20), 0);
        due.is("it leaves", x.pass(0, 1), 1);
        due.is("none in flight", x.total(3), 0);
        due.is("nothing is staged", x.state(4, 20), 0);
        due.is("nothing is sent", x.total(4), 1);
        // What a site sent goes on while it is down.
        x.up(1);
        for (int i = 0; i < 8; i++) {
            x.tick();
        }
        x.crash(0);
        due.is("received", x.pass(0, 1), 1);
        due.is("staged", x.state(4, 20), 4097);
    }

    private static void message() {
        TwinVaults x = made(200, 2);
        for (int what = -1; what < 9; what++) {
            due.is("none in flight: " + what, x.message(0, what), -1);
        }
        offered(x, 9);
        Runs.message(due, x, 0, 1, 0, 1, 0, 4097, 9, 9, 0);
        for (int what : new int[] {-1, 8, 9, MIN, MAX}) {
            due.is("message 0, " + what, x.message(0, what), -1);
        }
        for (int i : new int[] {-1, 1, MIN, MAX}) {
            due.is("message " + i, x.message(i, 0), -1);
        }
        x.pass(0, 1);
        Runs.message(due, x, 0, 2, 4, 1, 0, 4097, 0, 0, 0);
        x.pass(0, 1);
        Runs.message(due, x, 0, 3, 0, 1, 0, 4097, 0, 0, 4);
        Runs.message(due, x, 1, 3, 0, 1, 0, 4097, 1, 0, 4);
        x.pass(0, 1);
        Runs.message(due, x, 1, 4, 4, 1, 0, 4097, 1, 0, 0);
        x.pass(1, 1);
        Runs.message(due, x, 1, 3, 0, 1, 0, 4097, 2, 0, 1);
        x.pass(0, 1);
        x.pass(0, 1);
        Runs.message(due, x, 1, 5, 4, 1, 0, 4097, 0, 0, 0);
    }

    private static void item() {
        TwinVaults x = made(200, 2);
        due.is("none in flight", Due.item(x, 0, 0, 0), Due.OUT_OF_BOUNDS);
        x.write(0, 1, 50, 1);
        x.write(0, 0, 59, 2);
        x.write(0, 1, 7, 3);
        x.write(0, 0, 59, -4);
        x.write(0, 0, 3, 0);
        x.write(0, 1, 8, 5);
        x.snapshot(0);
        // What comes behind the target is not sent.
        x.write(0, 0, 3, 77);
        x.write(0, 0, 4, 77);
        x.tick();
        due.is("an offer has none", Due.item(x, 0, 0, 0), Due.OUT_OF_BOUNDS);
        x.pass(0, 1);
        x.pass(0, 1);
        int[][] first = {{0, 3, 0}, {0, 59, -4}, {1, 7, 3}, {1, 8, 5}};
        for (int k = 0; k < 4; k++) {
            for (int what = 0; what < 3; what++) {
                due.is("item " + k + ", " + what, Due.item(x, 0, k, what), first[k][what]);
            }
        }
        due.is("items of the second", x.message(1, 7), 1);
        due.is("its volume", Due.item(x, 1, 0, 0), 1);
        due.is("its place", Due.item(x, 1, 0, 1), 50);
        due.is("its number", Due.item(x, 1, 0, 2), 1);
        int[][] bad = {{0, 4, 0}, {0, -1, 0}, {0, MIN, 0}, {0, MAX, 0}, {1, 1, 0}, {2, 0, 0}, {-1, 0, 0}, {MAX, 0, 0},
            {0, 0, -1}, {0, 0, 3}, {0, 0, MIN}, {0, 0, MAX}};
        for (int[] b : bad) {
            due.is("item " + b[0] + ", " + b[1] + ", " + b[2], Due.item(x, b[0], b[1], b[2]), Due.OUT_OF_BOUNDS);
        }
    }

    private static void atMostSixty() {
        TwinVaults x = made(200, 2);
        x.force(4);
        x.tick();
        x.pass(0, 1);
        for (int i = 0; i < 60; i++) {
            x.back(0);
        }
        due.is("in flight", x.total(3), 60);
        due.is("sent", x.total(4), 61);
        due.is("lost", x.total(5), 0);
        due.is("one more", x.back(0), 0);
        due.is("in flight", x.total(3), 60);
        due.is("sent", x.total(4), 62);
        due.is("lost", x.total(5), 1);
        due.is("the last one", x.message(59, 0), 10);
        due.is("none behind it", x.message(60, 0), -1);
        int acts = x.total(21);
        x.pass(7, 2);
        due.is("received", x.total(21), acts + 1);
        due.is("the answer is lost", x.total(5), 2);
        due.is("in flight", x.total(3), 60);
        x.pass(7, 1);
        due.is("there is room for the answer", x.total(5), 2);
        due.is("it is the last one", x.message(59, 0), 11);
    }

    private static void chunks() {
        TwinVaults x = made(200, 3);
        offered(x, 30);
        x.pass(0, 1);
        Runs.state(due, x, "staged", 4, 18, 0, 19, 0, 20, 4097, 23, 0);
        x.pass(0, 1);
        Runs.state(due, x, "sending", 0, 13, 2, 14, 0, 15, 3);
        due.is("the window", x.total(3), 3);
        x.pass(0, 1);
        Runs.state(due, x, "one chunk", 4, 18, 1, 19, 4, 23, 4);
        due.is("blocks of the copy's site", x.total(22), 196);
        x.pass(2, 1);
        Runs.state(due, x, "acknowledged", 0, 14, 1, 15, 4, 16, 0);
        x.tick();
        due.is("wait", x.state(0, 16), 1);
        x.pass(0, 1);
        x.pass(2, 1);
        Runs.state(due, x, "a second", 0, 14, 2, 15, 5, 16, 0);
        // An ACK that tells nothing new leaves WAIT alone.
        x.tick();
        x.pass(0, 2);
        x.pass(0, 1);
        x.pass(2, 2);
        Runs.state(due, x, "a third", 0, 14, 3, 15, 6, 16, 0);
        x.tick();
        x.pass(2, 1);
        Runs.state(due, x, "the third again", 0, 14, 3, 15, 6, 16, 1);
        Runs.passAll(x);
        Runs.state(due, x, "all", 4, 5, 1, 6, 4097, 2, 30, 3, 30, 4, 30, 18, 0, 19, 0, 20, 0, 23, 30, 24, 0);
        // By 16: 0, 1; by 256: 0; the volume; to stage, eight chunks, four nodes, and the last.
        due.is("acts of the copy", x.total(21), 14);
        Runs.state(due, x, "acked", 0, 7, 4097, 8, 0, 12, 4097, 13, 0, 16, 0);
        due.is("alike", Due.sum(x, 4, 1), Due.sum(x, 0, 1));
    }

    private static void dataTurnedRound() {
        TwinVaults x = made(200, 3);
        offered(x, 12);
        x.pass(0, 1);
        x.pass(0, 1);
        // Chunk 2 comes first: nothing; chunk 0; chunk 0 again: an answer; chunk 1.
        x.pass(2, 2);
        Runs.state(due, x, "ahead", 4, 18, 0, 19, 0);
        due.is("no answer", x.total(3), 3);
        x.pass(0, 2);
        Runs.message(due, x, 3, 4, 4, 1, 0, 4097, 1, 0, 0);
        x.pass(0, 2);
        Runs.message(due, x, 4, 4, 4, 1, 0, 4097, 1, 0, 0);
        x.pass(1, 2);
        Runs.message(due, x, 5, 4, 4, 1, 0, 4097, 2, 0, 0);
        Runs.state(due, x, "two", 4, 18, 2, 19, 8);
        x.pass(5, 1);
        x.pass(3, 1);
        Runs.state(due, x, "an older answer behind", 0, 14, 2, 15, 3);
        x.power(1, 2);
        x.pass(2, 2);
        due.is("power fails in the commit", x.total(20), 0);
        x.up(1);
        Runs.state(due, x, "it has all", 4, 18, 3, 19, 12, 20, 4097, 6, 0);
        int acts = x.total(21);
        x.pass(2, 2);
        due.is("data commits nothing then", x.total(21), acts);
        Runs.message(due, x, x.total(3) - 1, 4, 4, 1, 0, 4097, 3, 0, 0);
        x.pass(1, 2);
        due.is("nor an older one", x.total(21), acts);
        x.pass(x.total(3) - 1, 1);
        Runs.state(due, x, "acknowledged", 0, 14, 3, 15, 3, 13, 2);
        Runs.settle(x, 8);
        Runs.state(due, x, "the offer commits", 4, 6, 4097, 20, 0);
        due.is("acts", x.total(21), acts + 4);
        due.is("acked", x.state(0, 7), 4097);
    }

    private static void differenceBehindABase() {
        TwinVaults x = made(200, 8);
        offered(x, 30);
        Runs.passAll(x);
        x.write(0, 1, 5, 7);
        x.write(0, 0, 5, 8);
        x.write(0, 1, 5, 9);
        x.snapshot(0);
        x.tick();
        Runs.message(due, x, 0, 1, 0, 1, 4097, 4098, 2, 33, 0);
        x.pass(0, 1);
        x.pass(0, 1);
        due.is("volume", Due.item(x, 0, 0, 0), 0);
        due.is("number", Due.item(x, 0, 0, 2), 8);
        due.is("the other's", Due.item(x, 0, 1, 2), 9);
        int acts = x.total(21);
        x.pass(0, 1);
        // A chunk; by 16: two; by 256: two; two volumes; the last.
        due.is("acts", x.total(21), acts + 8);
        Runs.state(due, x, "the copy", 4, 2, 33, 5, 2, 6, 4098, 23, 32);
        due.is("as it was", Due.old(x, 4, 0, 1, 5), 105);
        due.is("as it is", Due.read(x, 4, 1, 5), 9);
        due.is("differ", Due.differ(x, 4, 0, 1), 2);
        // An offer of what it has is answered with HAVE, without an act.
        x.pass(0, 0);
        for (int i = 0; i < 8; i++) {
            x.tick();
        }
        acts = x.total(21);
        x.pass(0, 1);
        Runs.message(due, x, 0, 5, 4, 1, 0, 4098, 0, 0, 0);
        due.is("no act", x.total(21), acts);
        x.power(0, 0);
        x.pass(0, 2);
        Runs.state(due, x, "power fails at HAVE", 0, 7, 4097, 8, 4098);
        x.up(0);
        x.pass(0, 2);
        Runs.state(due, x, "HAVE", 0, 7, 4098, 8, 0);
        acts = x.total(11);
        x.pass(0, 1);
        due.is("HAVE again", x.total(11), acts);
    }

    private static void offersThatAreOld() {
        TwinVaults x = made(200, 8);
        offered(x, 3);
        x.pass(0, 2);
        for (int i = 0; i < 3; i++) {
            x.pass(1, 1);
        }
        Runs.state(due, x, "the first", 4, 6, 4097);
        x.write(0, 0, 0, 1);
        x.snapshot(0);
        x.tick();
        for (int i = 0; i < 4; i++) {
            x.pass(1, 1);
        }
        Runs.state(due, x, "the second", 4, 6, 4098);
        int acts = x.total(21);
        due.is("the first offer again", x.message(0, 4), 4097);
        x.pass(0, 1);
        due.is("no act", x.total(21), acts);
        due.is("no answer", x.total(3), 0);
    }

    private static void refused() {
        TwinVaults x = new TwinVaults(16, 2, 8);
        x.group(1, 60);
        x.group(1, 60);
        // The copy's site has 16 blocks: 14 go to the second group, so that no chunk of four finds room.
        x.fill(1, 0, 0, 14, 1);
        x.snapshot(1);
        Runs.settle(x, 1);
        due.is("two are free", x.total(22), 2);
        x.force(5);
        due.is("two are free still", x.total(22), 2);
        x.write(5, 0, 0, 9);
        x.write(5, 0, 0, 9);
        due.is("one is free", x.total(22), 1);
        x.write(0, 0, 0, 1);
        x.write(0, 0, 1, 1);
        x.snapshot(0);
        x.tick();
        for (int i = 0; i < 3; i++) {
            for (int k = x.total(3); k > 0; k--) {
                x.pass(0, x.message(0, 1) == 1 || x.message(0, 1) == 5 ? 0 : 1);
            }
        }
        Runs.state(due, x, "refused", 4, 18, 0, 19, 0, 20, 4097, 21, 1);
        due.is("no answer", x.total(3), 0);
        x.crash(1);
        due.is("pending", x.up(1), 2);
        Runs.state(due, x, "counted still", 4, 21, 1);
        due.is("two are free again", x.total(22), 2);
        for (int i = 0; i < 8; i++) {
            x.tick();
        }
        for (int k = 0; k < 40 && x.total(3) > 0; k++) {
            x.pass(0, x.message(0, 1) == 1 || x.message(0, 1) == 5 ? 0 : 1);
        }
        Runs.state(due, x, "room for two", 4, 6, 4097, 21, 1, 23, 2);
    }

    private static void poolOfTheCopy() {
        TwinVaults x = new TwinVaults(16, 2, 8);
        x.group(1, 30);
        x.fill(0, 0, 0, 8, 1);
        x.snapshot(0);
        Runs.settle(x, 1);
        due.is("the copy's free", x.total(22), 8);
        x.fill(0, 0, 0, 8, 2);
        x.snapshot(0);
        Runs.settle(x, 1);
        due.is("none is free", x.total(22), 0);
        due.is("two snapshots", x.state(4, 5), 2);
        Runs.state(due, x, "the sender", 0, 7, 4098, 23, 16);
        due.is("nothing more can be written", x.write(0, 0, 0, 3), -6);
    }

    private static void commitThins() {
        TwinVaults x = made(200, 8);
        for (int i = 0; i < 4; i++) {
            x.write(0, 0, 0, i);
            x.snapshot(0);
            Runs.settle(x, 1);
        }
        Runs.state(due, x, "the copy keeps two", 4, 5, 2, 23, 2);
        due.is("the last two", x.snap(4, 0, 0), 4099);
        // Of the sender ACKED is pinned while others come and go.
        for (int i = 0; i < 4; i++) {
            x.write(0, 0, 0, 9 + i);
            x.snapshot(0);
        }
        Runs.state(due, x, "the sender keeps two", 0, 5, 2, 6, 4104, 7, 4100);
        due.is("ACKED", x.snap(0, 0, 0), 4100);
        x.tick();
        x.write(0, 0, 0, 20);
        x.snapshot(0);
        due.is("ACKED, TARGET, LATEST", x.state(0, 5), 3);
        Runs.passAll(x);
        due.is("thinned when it is acked", x.state(0, 5), 2);
        due.is("the target", x.snap(0, 0, 0), 4104);
    }
}
