/** Promises 8 to 11: leave, stay, force, back; and what the messages of a change do. */
public final class ChangeTest {
    private static final Due due = new Due();
    private static final int[] NO_STORES = {-1, 1, 3, 5, 8, Integer.MIN_VALUE, Integer.MAX_VALUE};

    public static void main(String[] args) {
        leave();
        leaveThatIsCutShort();
        stay();
        giveAndTake();
        giftsInTurn();
        giveThatIsNotTaken();
        leavingThatIsFenced();
        force();
        forceThatIsCutShort();
        back();
        nothingInCommon();
        wayBackThatIsCutShort();
        due.end("ChangeTest");
    }

    private static TwinVaults made() {
        TwinVaults x = new TwinVaults(64, 2, 8);
        x.group(1, 40);
        return x;
    }

    private static void leave() {
        TwinVaults x = made();
        due.is("of a copy", x.leave(4), -4);
        x.write(0, 0, 1, 10);
        due.is("with something new", x.leave(0), 4097);
        due.is("acts: the snapshot's and one", x.total(11), 6);
        Runs.state(due, x, "leaving", 0, 0, 2, 1, 1, 5, 1, 6, 4097, 11, 0);
        due.is("leaving: write", x.write(0, 0, 1, 1), -4);
        due.is("leaving: fill", x.fill(0, 0, 1, 1, 1), -4);
        due.is("leaving: snapshot", x.snapshot(0), -4);
        due.is("leaving: leave", x.leave(0), -4);
        due.is("leaving: force", x.force(0), -4);
        due.is("leaving: back", x.back(0), -4);
        due.is("leaving: flush", x.flush(0), 0);
        due.is("leaving: checkpoint", x.checkpoint(0), 0);
        x.stay(0);
        due.is("with nothing new", x.leave(0), 4097);
        due.is("acts: one each", x.total(11), 8);
        for (int h : NO_STORES) {
            due.is("leave " + h, x.leave(h), -2);
        }
        x.crash(0);
        due.is("down", x.leave(0), -3);
        due.is("the role stays", x.state(0, 0), 2);
        TwinVaults y = made();
        due.is("with nothing at all", y.leave(0), 0);
        due.is("no snapshot", y.state(0, 5), 0);
        y.crash(1);
        due.is("of a copy that is down", y.leave(4), -3);
    }

    private static void leaveThatIsCutShort() {
        TwinVaults x = made();
        x.write(0, 0, 1, 10);
        x.power(0, 5);
        due.is("power fails at the last act", x.leave(0), -3);
        Runs.state(due, x, "cut short", 0, 0, 1, 6, 4097);
        x.up(0);
        x.write(0, 0, 1, 11);
        x.flush(0);
        x.power(0, 4);
        due.is("power fails before the snapshot", x.leave(0), -3);
        Runs.state(due, x, "cut short again", 0, 0, 1, 6, 4097, 4, 2);
    }

    private static void stay() {
        TwinVaults x = made();
        due.is("of a primary", x.stay(0), -4);
        due.is("of a copy", x.stay(4), -4);
        x.leave(0);
        due.is("of one that leaves", x.stay(0), 0);
        due.is("acts", x.total(11), 2);
        due.is("it is primary", x.state(0, 0), 1);
        due.is("it may write", x.write(0, 0, 0, 1), 1);
        x.leave(0);
        x.power(0, 0);
        due.is("power fails", x.stay(0), -3);
        due.is("it leaves still", x.state(0, 0), 2);
        due.is("down", x.stay(0), -3);
        x.up(0);
        Runs.settle(x, 1);
        x.tick();
        due.is("it has given", x.state(0, 11), 2);
        due.is("too late", x.stay(0), -4);
        for (int h : NO_STORES) {
            due.is("stay " + h, x.stay(h), -2);
        }
    }

    private static void giveAndTake() {
        TwinVaults x = made();
        x.leave(0);
        x.tick();
        // Nothing was ever written: LATEST is ACKED, so that it gives at once.
        Runs.message(due, x, 0, 8, 0, 1, 0, 0, 2, 0, 0);
        Runs.state(due, x, "given", 0, 11, 2, 16, 0);
        due.is("acts: to leave, to give", x.total(11), 2);
        for (int i = 1; i < 8; i++) {
            x.tick();
            due.is("wait", x.state(0, 16), i);
        }
        x.tick();
        due.is("wait from anew", x.state(0, 16), 0);
        Runs.message(due, x, 1, 8, 0, 1, 0, 0, 2, 0, 0);
        due.is("no act to give again", x.total(11), 2);
        x.pass(0, 1);
        Runs.state(due, x, "taken", 4, 0, 1, 1, 2, 5, 1, 6, 8193, 7, 0, 8, 0, 12, 0, 24, 1);
        due.is("its length", x.snap(4, 0, 1), 0);
        due.is("one act", x.total(21), 1);
        Runs.message(due, x, 1, 9, 4, 2, 0, 0, 0, 0, 0);
        // The same gift once more is of an epoch that is over.
        x.pass(0, 1);
        Runs.message(due, x, 1, 7, 4, 2, 0, 0, 0, 0, 0);
        due.is("no act", x.total(21), 1);
        x.pass(0, 1);
        Runs.state(due, x, "left", 0, 0, 0, 1, 2, 11, 0, 24, 0);
        due.is("an act", x.total(11), 3);
        x.pass(0, 1);
        Runs.state(due, x, "a fence of its own epoch", 0, 0, 0, 1, 2);
        due.is("no act for it", x.total(11), 3);
    }

    private static void giftsInTurn() {
        TwinVaults x = made();
        x.write(0, 0, 1, 10);
        x.leave(0);
        Runs.settle(x, 2);
        Runs.state(due, x, "first", 0, 0, 0, 1, 2, 5, 1, 6, 4097, 7, 0, 8, 0, 12, 0);
        Runs.state(due, x, "first", 4, 0, 1, 1, 2, 5, 2, 6, 8193, 7, 4097, 8, 0, 12, 4097);
        due.is("the new one writes", x.write(4, 0, 2, 20), 1);
        due.is("the old one does not", x.write(0, 0, 2, 20), -4);
        due.is("a snapshot of the epoch", x.snapshot(4), 8194);
        due.is("leave", x.leave(4), 8194);
        Runs.settle(x, 2);
        Runs.state(due, x, "second", 4, 0, 0, 1, 5);
        Runs.state(due, x, "second", 0, 0, 1, 1, 5, 6, 20481, 7, 8194, 24, 1);
        due.is("what came over", Due.read(x, 0, 0, 2), 20);
        x.leave(0);
        Runs.settle(x, 3);
        Runs.state(due, x, "third", 4, 0, 1, 1, 6, 6, 24577);
        Runs.state(due, x, "third", 0, 0, 0, 1, 6);
        due.is("force behind a gift", x.force(0), 7);
    }

    private static void giveThatIsNotTaken() {
        TwinVaults x = made();
        x.leave(0);
        x.tick();
        x.pass(0, 2);
        x.pass(1, 0);
        // The copy has taken it already: GIVE is of an epoch that is over, and what comes back tells of the new one.
        x.pass(0, 1);
        due.is("a fence", x.message(0, 0), 7);
        x.pass(0, 1);
        Runs.state(due, x, "a fence with the gift's epoch", 0, 0, 0, 1, 2, 11, 0);

        TwinVaults y = made();
        y.leave(0);
        y.tick();
        y.power(1, 0);
        y.pass(0, 2);
        Runs.state(due, y, "power failed", 4, 0, 0, 1, 1, 5, 0);
        due.is("nothing is sent", y.total(3), 1);
        y.pass(0, 2);
        Runs.state(due, y, "down", 4, 0, 0);
        y.up(1);
        y.pass(0, 2);
        Runs.state(due, y, "up", 4, 0, 1, 1, 2);
        y.pass(1, 1);
        y.power(0, 0);
        due.is("a copy now", y.state(0, 0), 0);

        TwinVaults z = made();
        z.write(0, 0, 0, 1);
        z.leave(0);
        Runs.settle(z, 1);
        z.tick();
        z.pass(0, 2);
        z.pass(1, 2);
        due.is("B is LATEST", z.state(4, 6), 8193);
        due.is("acked", z.state(4, 7), 4097);
    }

    private static void leavingThatIsFenced() {
        TwinVaults x = made();
        x.leave(0);
        x.tick();
        due.is("force against a gift", x.force(4), 4);
        x.tick();
        Runs.message(due, x, 1, 1, 4, 4, 0, 16385, 0, 0, 0);
        x.pass(1, 1);
        Runs.state(due, x, "another epoch than its gift", 0, 0, 3, 1, 4, 11, 0);
        // The gift is of epoch 1: it is answered with a fence, and nothing is taken.
        x.pass(0, 1);
        Runs.state(due, x, "not taken", 4, 0, 1, 1, 4, 5, 1);
        Runs.message(due, x, 0, 7, 4, 4, 0, 0, 0, 0, 0);
    }

    private static void force() {
        TwinVaults x = made();
        x.write(0, 0, 1, 10);
        x.snapshot(0);
        Runs.settle(x, 1);
        due.is("acts of site 0", x.total(11), 7);
        due.is("acts of site 1", x.total(21), 6);
        due.is("of a primary", x.force(0), -4);
        due.is("of a copy", x.force(4), 4);
        due.is("one act", x.total(21), 7);
        Runs.state(due, x, "forced", 4, 0, 1, 1, 4, 2, 1, 5, 2, 6, 16385, 7, 0, 8, 0, 9, 4097, 10, 0, 12, 0, 24, 1);
        due.is("its line", x.snap(4, 1, 1), 1);
        due.is("again", x.force(4), -4);
        x.write(0, 0, 1, 11);
        x.write(0, 0, 2, 12);
        due.is("the other goes on", x.snapshot(0), 4098);
        x.tick();
        Runs.message(due, x, 0, 1, 0, 1, 4097, 4098, 2, 3, 0);
        Runs.message(due, x, 1, 1, 4, 4, 0, 16385, 1, 1, 0);
        x.pass(0, 1);
        Runs.message(due, x, 1, 7, 4, 4, 0, 0, 0, 0, 0);
        x.pass(0, 1);
        Runs.state(due, x, "fenced", 0, 0, 3, 1, 4, 7, 4097, 8, 4098, 13, 0, 24, 0);
        x.pass(0, 1);
        due.is("fenced: write", x.write(0, 0, 0, 1), -4);
        due.is("of a fenced one", x.force(0), 7);
        Runs.state(due, x, "forced back", 0, 0, 1, 1, 7, 5, 3, 6, 28673, 7, 0, 8, 0, 9, 4097, 10, 4098, 12, 0, 24, 1);
        x.write(0, 0, 3, 13);
        x.tick();
        Runs.message(due, x, 0, 1, 0, 7, 0, 28673, 2, 3, 0);
        x.pass(0, 1);
        Runs.state(due, x, "the other is fenced", 4, 0, 3, 1, 7, 8, 16385);
        due.is("a fenced one that holds", x.force(4), 8);
        Runs.state(due, x, "it holds what it held", 4, 5, 2, 6, 32769, 9, 4097, 10, 0);
        due.is("the snapshot between is gone", x.snap(4, 0, 0), 4097);
        for (int h : NO_STORES) {
            due.is("force " + h, x.force(h), -2);
        }
        // And the way back of the first one, that has lost what the other never had.
        x.tick();
        Runs.message(due, x, 0, 1, 4, 8, 0, 32769, 1, 1, 0);
        x.pass(0, 1);
        due.is("back", x.back(0), 0);
        Runs.message(due, x, 0, 10, 0, 8, 0, 0, 0, 0, 3);
        int[] ids = {28673, 4098, 4097};
        for (int k = 0; k < 3; k++) {
            due.is("its snapshot " + k, Due.item(x, 0, k, 0), ids[k]);
            due.is("0 behind it", Due.item(x, 0, k, 1), 0);
            due.is("and 0", Due.item(x, 0, k, 2), 0);
        }
        x.pass(0, 1);
        Runs.message(due, x, 0, 11, 4, 8, 0, 4097, 0, 0, 0);
        Runs.state(due, x, "hello", 4, 7, 4097, 8, 32769, 9, 0, 10, 0, 12, 4097, 13, 0, 16, 0);
        x.pass(0, 1);
        Runs.state(due, x, "way back", 0, 0, 0, 1, 8, 2, 1, 3, 1, 4, 1, 5, 1, 6, 4097, 7, 0, 8, 0, 9, 0, 10, 0, 17, 0,
                22, 3, 23, 1);
        Runs.lost(due, x, 0, 0, 0, 1, 11);
        Runs.lost(due, x, 0, 1, 0, 2, 12);
        Runs.lost(due, x, 0, 2, 0, 3, 13);
        due.is("what it holds", Due.read(x, 0, 0, 1), 10);
        due.is("what it lost", Due.read(x, 0, 0, 3), 0);
        for (int i = 0; i < 8; i++) {
            x.tick();
        }
        Runs.message(due, x, 0, 1, 4, 8, 4097, 32769, 0, 1, 0);
        int acts = x.total(11);
        x.pass(0, 1);
        due.is("to stage nothing, and to commit it", x.total(11), acts + 2);
        Runs.message(due, x, 0, 5, 0, 8, 0, 32769, 0, 0, 0);
        Runs.state(due, x, "one again", 0, 5, 2, 6, 32769, 2, 1);
        x.pass(0, 1);
        Runs.state(due, x, "one again", 4, 7, 32769, 8, 0, 12, 32769);
    }

    private static void forceThatIsCutShort() {
        TwinVaults x = made();
        x.write(0, 0, 1, 10);
        x.power(1, 0);
        due.is("power fails", x.force(4), -3);
        Runs.state(due, x, "cut short", 4, 0, 0, 1, 1, 5, 0);
        due.is("down", x.force(4), -3);
        x.up(1);
        x.force(4);
        x.tick();
        x.pass(0, 1);
        due.is("fenced", x.state(0, 0), 3);
        due.is("with a pending write", x.state(0, 2) - x.state(0, 3), 1);
        int acts = x.total(11);
        x.power(0, 4);
        due.is("power fails behind the checkpoint", x.force(0), -3);
        Runs.state(due, x, "cut short", 0, 0, 3, 1, 4, 4, 1, 5, 0);
        x.up(0);
        due.is("without anything to keep", x.force(0), 7);
        due.is("acts", x.total(11), acts + 5);
        due.is("its line", x.snap(0, 0, 1), 1);
    }

    private static void back() {
        TwinVaults x = made();
        due.is("of a primary", x.back(0), -4);
        due.is("of a copy", x.back(4), -4);
        for (int h : NO_STORES) {
            due.is("back " + h, x.back(h), -2);
        }
        x.force(4);
        x.tick();
        x.pass(0, 1);
        x.tick();
        due.is("a fenced one waits for nothing", x.state(0, 16), 0);
        due.is("back", x.back(0), 0);
        due.is("no act", x.total(11), 1);
        Runs.message(due, x, 0, 10, 0, 4, 0, 0, 0, 0, 0);
        Runs.state(due, x, "returning", 0, 17, 1, 16, 0);
        for (int i = 1; i < 8; i++) {
            x.tick();
            due.is("wait", x.state(0, 16), i);
        }
        due.is("one hello, one offer", x.total(3), 2);
        x.tick();
        due.is("hello again", x.message(x.total(3) - 1, 0), 10);
        due.is("wait from anew", x.state(0, 16), 0);
        x.tick();
        due.is("wait", x.state(0, 16), 1);
        x.back(0);
        due.is("back again", x.state(0, 16), 0);
        x.crash(0);
        due.is("down", x.back(0), -3);
        due.is("told as it was", x.state(0, 17), 1);
        x.up(0);
        due.is("it returns no more", x.state(0, 17), 0);
        // COMMON finds none that returns.
        x.pass(0, 1);
        int last = x.total(3) - 1;
        due.is("common", x.message(last, 0), 11);
        x.pass(last, 1);
        due.is("fenced still", x.state(0, 0), 3);
    }

    private static void nothingInCommon() {
        TwinVaults x = new TwinVaults(64, 2, 8);
        x.group(2, 40);
        x.write(0, 1, 7, 1);
        x.write(0, 0, 9, 2);
        x.snapshot(0);
        x.write(0, 1, 6, 3);
        x.write(0, 1, 7, 0);
        x.force(4);
        x.tick();
        x.pass(1, 1);
        x.back(0);
        x.pass(1, 1);
        Runs.message(due, x, 1, 11, 4, 4, 0, 0, 0, 0, 0);
        x.pass(1, 1);
        Runs.state(due, x, "the empty line", 0, 0, 0, 2, 0, 3, 0, 4, 0, 5, 0, 6, 0, 22, 3, 23, 0);
        Runs.lost(due, x, 0, 0, 0, 9, 2);
        Runs.lost(due, x, 0, 1, 1, 6, 3);
        Runs.lost(due, x, 0, 2, 1, 7, 0);
        due.is("no fourth", Due.lost(x, 0, 3, 0), Due.OUT_OF_BOUNDS);
    }

    private static void wayBackThatIsCutShort() {
        TwinVaults x = made();
        x.write(0, 0, 9, 2);
        x.force(4);
        x.tick();
        x.power(0, 0);
        x.pass(0, 2);
        Runs.state(due, x, "power fails at the epoch", 0, 0, 1, 1, 1);
        x.up(0);
        x.write(0, 0, 9, 3);
        x.pass(0, 1);
        due.is("fenced", x.state(0, 0), 3);
        x.back(0);
        x.power(1, 0);
        x.pass(0, 2);
        Runs.state(due, x, "power fails at hello", 4, 7, 0);
        due.is("nothing is sent", x.total(3), 1);
        x.up(1);
        x.pass(0, 1);
        x.power(0, 0);
        x.pass(0, 2);
        Runs.state(due, x, "power fails at the way back", 0, 0, 3, 2, 1, 22, 0);
        x.up(0);
        x.back(0);
        x.pass(0, 1);
        // What was pending is lost by the power, not by the way back.
        Runs.state(due, x, "way back", 0, 0, 0, 2, 0, 22, 0);
    }
}
