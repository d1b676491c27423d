import java.util.ArrayList;
import java.util.Arrays;
import java.util.List;
import java.util.Map;
import java.util.Random;
import java.util.TreeMap;

/** Runs of calls by chance (the same ones each time), on TwinVaults and on the plain form beside it. */
public final class CompareTest {
    private static final int RUNS = 500, CALLS = 512;
    /** What the runs must have met, or they would tell little. */
    private static final String[] MEETINGS = {
        "accepted", "accepted the rest", "all pinned", "an old offer", "checkpoint instead of flush",
        "committed a difference", "committed a whole", "committed at an offer", "committed nothing",
        "dark at kind 1", "dark at kind 3", "dark at kind 5", "dark at kind 7", "dark at kind 8", "dark at kind 9",
        "dark at kind 10", "dark at kind 11", "dark in a tick", "data ahead", "doubled data", "fenced off kind 1",
        "fenced off kind 3", "fenced off kind 8", "forced copy", "forced fenced", "forced fenced, held before",
        "forced fenced, target held", "full", "gave again", "hello again", "lacks all", "lacks some",
        "lacks what is unknown", "leaving fenced", "left", "no room on the link", "nothing in common",
        "older ones went", "pending lost", "primary fenced", "refused", "something in common",
        "staged went with the epoch", "stayed", "thinned", "took", "way back, lost", "way back, nothing lost"
    };

    private final Random chance;
    private final Due due;
    private final List<String> calls = new ArrayList<>();
    private final TwinVaults x;
    private final PlainTwin y;
    // Runs differ: in how often power fails and roles are forced, in what the link does, and in how much is written.
    private final int rough;
    private final int lossy;
    private final boolean slow;
    private final boolean large;
    private final boolean tampered;
    private long compared;

    private CompareTest(int seed, Due due) {
        this.due = due;
        chance = new Random(seed);
        int[] pools = {0, 16, 20, 40, 80, 200, 600, 9000};
        large = oneIn(25);
        int pool = large ? 9000 : pools[chance.nextInt(pools.length)];
        int keep = 1 + chance.nextInt(9);
        int window = chance.nextInt(10);
        rough = chance.nextInt(4);
        lossy = chance.nextInt(4);
        slow = oneIn(6);
        tampered = oneIn(8);
        x = new TwinVaults(pool, keep, window);
        y = new PlainTwin(pool, keep, window);
        calls.add("new TwinVaults(" + pool + ", " + keep + ", " + window + ")");
    }

    public static void main(String[] args) {
        int first = args.length > 0 ? Integer.parseInt(args[0]) : 0;
        int runs = args.length > 1 ? Integer.parseInt(args[1]) : RUNS;
        Due due = new Due();
        Map<String, Integer> met = new TreeMap<>();
        for (int seed = first; seed < first + runs && due.allRight(); seed++) {
            CompareTest run = new CompareTest(seed, due);
            run.go();
            run.y.met.forEach((what, n) -> met.merge(what, n, Integer::sum));
            if (!due.allRight()) {
                System.out.println("run " + seed + ":\n  " + String.join("\n  ", run.calls));
            }
        }
        // Other runs than the project's own need not meet what is rare.
        for (int i = 0; i < MEETINGS.length && args.length == 0; i++) {
            due.is("was met: " + MEETINGS[i], met.containsKey(MEETINGS[i]), true);
        }
        System.out.println(met);
        due.end("CompareTest");
    }

    private void go() {
        int groups = chance.nextInt(3) == 0 ? 1 + chance.nextInt(4) : 1;
        for (int g = 0; g < groups; g++) {
            int places = large || oneIn(6) ? 4096 : 1 + chance.nextInt(chance.nextBoolean() ? 30 : 400);
            newGroup(1 + chance.nextInt(3), places);
        }
        for (int i = 0; i < CALLS && due.allRight(); i++) {
            step();
            lookAtAll();
        }
    }

    private void is(String call, long got, long want) {
        calls.add(call + " = " + want);
        due.is(call, got, want);
    }

    /** A telling call: its words are put together only if they are wanted, for there are many. */
    private void same(String name, long got, long want, int... with) {
        if (got == want) {
            compared++;
        } else {
            due.is(name + Arrays.toString(with), got, want);
        }
    }

    private void newGroup(int volumes, int places) {
        is("group(" + volumes + ", " + places + ")", x.group(volumes, places), y.group(volumes, places));
    }

    private boolean oneIn(int n) {
        return chance.nextInt(n) == 0;
    }

    /** A store of one of some roles, if there is one; else, and at times all the same, any number. */
    private int someStore(int role, int otherRole) {
        List<Integer> fitting = new ArrayList<>();
        for (int h = 0; h < 8; h++) {
            if (y.look(h) != null && (y.look(h).role == role || y.look(h).role == otherRole)) {
                fitting.add(h);
            }
        }
        if (fitting.isEmpty() || oneIn(25)) {
            return chance.nextInt(10) - 1;
        }
        return fitting.get(chance.nextInt(fitting.size()));
    }

    private int someStore() {
        return chance.nextInt(12) == 0 ? chance.nextInt(11) - 1 : 4 * chance.nextInt(2) + chance.nextInt(2);
    }

    private int someVolume(int h) {
        int n = h < 0 || h > 7 || y.look(h) == null ? 1 : y.look(h).volumes;
        return oneIn(60) ? chance.nextInt(n + 3) - 1 : chance.nextInt(n);
    }

    private int somePlace(int h) {
        int n = h < 0 || h > 7 || y.look(h) == null ? 1 : y.look(h).places;
        if (oneIn(60)) {
            return chance.nextInt(n + 3) - 1;
        }
        return oneIn(3) ? chance.nextInt(n) : chance.nextInt(Math.min(n, 12));
    }

    private void step() {
        if ((x.total(10) == 0 || x.total(20) == 0) && oneIn(6)) {
            wake();
            return;
        }
        if (tampered && oneIn(8)) {
            tamper();
        }
        int what = chance.nextInt(100);
        if (what < 16) {
            put();
        } else if (what < 34) {
            is("tick()", x.tick(), y.tick());
        } else if (what < 78) {
            passOne();
        } else if (what < 86) {
            int h = someStore(PlainTwin.PRIMARY, PlainTwin.PRIMARY);
            is("snapshot(" + h + ")", x.snapshot(h), y.snapshot(h));
        } else if (what < 89) {
            int h = someStore(PlainTwin.PRIMARY, PlainTwin.FENCED);
            is("flush(" + h + ")", x.flush(h), y.flush(h));
        } else if (what < 91) {
            int h = someStore();
            is("checkpoint(" + h + ")", x.checkpoint(h), y.checkpoint(h));
        } else {
            change();
        }
    }

    private void put() {
        int h = someStore(PlainTwin.PRIMARY, PlainTwin.PRIMARY);
        int volume = someVolume(h);
        int place = somePlace(h);
        int number = oneIn(8) ? chance.nextInt() : chance.nextInt(9);
        if (!oneIn(3)) {
            is("write(" + h + ", " + volume + ", " + place + ", " + number + ")", x.write(h, volume, place, number),
                    y.write(h, volume, place, number));
            return;
        }
        int n = oneIn(12) ? chance.nextInt(300) : 1 + chance.nextInt(20);
        if (large && oneIn(8)) {
            n = 500 + chance.nextInt(300);
        }
        if (oneIn(40)) {
            n = chance.nextInt(5) - 2;
        }
        is("fill(" + h + ", " + volume + ", " + place + ", " + n + ", " + number + ")",
                x.fill(h, volume, place, n, number), y.fill(h, volume, place, n, number));
    }

    private void passOne() {
        int flight = y.total(3);
        int i = 0;
        int how = 1;
        if (chance.nextInt(10) < 2 * lossy) {
            i = flight == 0 ? 0 : chance.nextInt(flight);
            how = oneIn(4) ? 0 : oneIn(4) ? 2 : 1;
        }
        if (slow && !oneIn(4)) {
            i = Math.max(0, flight - 1 - chance.nextInt(3));
            how = oneIn(2) ? 2 : 1;
        }
        if (oneIn(100)) {
            i = chance.nextInt(70) - 2;
            how = chance.nextInt(6) - 1;
        }
        is("pass(" + i + ", " + how + ")", x.pass(i, how), y.pass(i, how));
    }

    private void change() {
        int what = chance.nextInt(24);
        if (what < 4) {
            int h = someStore(PlainTwin.PRIMARY, PlainTwin.PRIMARY);
            is("leave(" + h + ")", x.leave(h), y.leave(h));
        } else if (what < 5) {
            int h = someStore(PlainTwin.LEAVING, PlainTwin.LEAVING);
            is("stay(" + h + ")", x.stay(h), y.stay(h));
        } else if (what < 6 + rough) {
            int h = oneIn(3) ? someStore(PlainTwin.FENCED, PlainTwin.FENCED)
                    : someStore(PlainTwin.COPY, PlainTwin.FENCED);
            is("force(" + h + ")", x.force(h), y.force(h));
        } else if (what < 14) {
            int h = someStore(PlainTwin.FENCED, PlainTwin.FENCED);
            is("back(" + h + ")", x.back(h), y.back(h));
        } else if (what < 16) {
            int n = oneIn(5) ? chance.nextInt(1004) - 2 : chance.nextInt(9);
            is("period(" + n + ")", x.period(n) ? 1 : 0, y.period(n) ? 1 : 0);
        } else if (what < 17 + rough) {
            fail();
        } else if (what == 22) {
            wake();
        } else if (what == 23 && oneIn(4)) {
            newGroup(chance.nextInt(10), oneIn(2) ? chance.nextInt(3) * 2048 + chance.nextInt(3) - 1 : 20);
        }
    }

    private void fail() {
        int site = oneIn(20) ? chance.nextInt(5) - 2 : chance.nextInt(2);
        if (oneIn(4)) {
            is("crash(" + site + ")", x.crash(site) ? 1 : 0, y.crash(site) ? 1 : 0);
            return;
        }
        int n = oneIn(10) ? chance.nextInt(3) - 2 : oneIn(3) ? chance.nextInt(3) : chance.nextInt(20);
        if (oneIn(40)) {
            n = 99999 + chance.nextInt(3);
        }
        is("power(" + site + ", " + n + ")", x.power(site, n) ? 1 : 0, y.power(site, n) ? 1 : 0);
    }

    private void wake() {
        int site = oneIn(20) ? chance.nextInt(4) - 1 : y.total(10) == 0 ? 0 : 1;
        is("up(" + site + ")", x.up(site), y.up(site));
    }

    /**
     * Puts a state into both that no calls lead to, for no run by chance ever met a LACK, nor a COPY that stages
     * and hears of a later EPOCH; what the document says of them holds all the same.
     */
    private void tamper() {
        int h = someStore(PlainTwin.PRIMARY, PlainTwin.LEAVING);
        PlainTwin.Store s = h < 0 || h > 7 ? null : y.look(h);
        if (s == null || s.role != PlainTwin.PRIMARY && s.role != PlainTwin.LEAVING) {
            return;
        }
        if (oneIn(4)) {
            s.epoch += 4;
            calls.add("(store " + h + "'s epoch is " + s.epoch + ")");
            Inside.set(Inside.store(x, h), "epoch", s.epoch);
        } else if (oneIn(4)) {
            renameLatest((h + 4) % 8);
        } else if (s.target != 0) {
            PlainTwin.Snapshot p = s.snapshots.get(chance.nextInt(s.snapshots.size()));
            s.base = p.id < s.target ? p.id : 0;
            calls.add("(store " + h + "'s base is " + s.base + ")");
            Inside.set(Inside.store(x, h), "base", s.base);
        }
    }

    /** Gives a COPY's last SNAPSHOT an ID that its other has never heard of. */
    private void renameLatest(int h) {
        List<PlainTwin.Snapshot> all = y.snapshotsOf(h);
        if (all.isEmpty() || y.look(h).role != PlainTwin.COPY || y.look(h).stages) {
            return;
        }
        int k = all.size() - 1;
        // No such ID is ever given: one run takes far fewer SNAPSHOTS of an EPOCH.
        int id = all.get(k).id / 4096 * 4096 - 1 - chance.nextInt(1000);
        if (id < 1 || k > 0 && all.get(k - 1).id >= id) {
            return;
        }
        all.get(k).id = id;
        calls.add("(store " + h + "'s last snapshot is " + id + ")");
        ((int[]) Inside.get(Inside.get(Inside.store(x, h), "vault"), "ids"))[k] = id;
    }

    private void lookAtAll() {
        for (int what = -1; what < 26; what++) {
            same("total", x.total(what), y.total(what), what);
        }
        for (int h = -1; h < 9; h++) {
            for (int what = -1; what < 26; what++) {
                same("state", x.state(h, what), y.state(h, what), h, what);
            }
            if (h >= 0 && h < 8 && y.look(h) != null) {
                lookAtStore(h);
            }
        }
        for (int i = -1; i <= y.total(3); i++) {
            lookAtMessage(i);
        }
        int h = chance.nextInt(10) - 1;
        int volume = chance.nextInt(5) - 1;
        int place = chance.nextInt(30) - 1;
        same("read", Due.read(x, h, volume, place), y.read(h, volume, place), h, volume, place);
        same("sum", Due.sum(x, h, volume), y.sum(h, volume), h, volume);
    }

    private void lookAtStore(int h) {
        int n = y.snapshotsOf(h).size();
        for (int k = -1; k <= n; k++) {
            for (int what = -1; what < 3; what++) {
                same("snap", x.snap(h, k, what), y.snap(h, k, what), h, k, what);
            }
            int volume = someVolume(h);
            int place = somePlace(h);
            same("old", Due.old(x, h, k, volume, place), y.old(h, k, volume, place), h, k, volume, place);
            int j = chance.nextInt(n + 2) - 1;
            same("differ", Due.differ(x, h, k, j), y.differ(h, k, j), h, k, j);
        }
        int volume = someVolume(h);
        int place = somePlace(h);
        same("read", Due.read(x, h, volume, place), y.read(h, volume, place), h, volume, place);
        same("sum", Due.sum(x, h, volume), y.sum(h, volume), h, volume);
        for (int i = -1; i <= y.state(h, 22); i++) {
            for (int what = -1; what < 4; what++) {
                same("lost", Due.lost(x, h, i, what), y.lost(h, i, what), h, i, what);
            }
        }
    }

    private void lookAtMessage(int i) {
        for (int what = -1; what < 9; what++) {
            same("message", x.message(i, what), y.message(i, what), i, what);
        }
        for (int k = -1; k <= y.message(i, 7); k++) {
            for (int what = -1; what < 4; what++) {
                same("item", Due.item(x, i, k, what), y.item(i, k, what), i, k, what);
            }
        }
    }
}
