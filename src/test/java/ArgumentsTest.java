import java.util.Random;

/** Calls with any arguments in any order: each answers as the plain form does, and the machine never throws. */
public final class ArgumentsTest {
    private static final int RUNS = 400, CALLS = 512, KINDS = 26;
    private static final int[] EDGES = {Integer.MIN_VALUE, -100, -6, -3, -2, -1, 0, 0, 0, 1, 1, 2, 2, 3, 4, 4, 5, 7, 8, 9,
        10, 11, 16, 24, 25, 39, 40, 60, 63, 64, 100, 1000, 1001, 4095, 4096, 4097, 8192, 100000, 100001,
        Integer.MAX_VALUE - 1, Integer.MAX_VALUE};

    private final Random chance;
    private final TwinVaults x;
    private final PlainTwin y;

    private ArgumentsTest(int seed) {
        chance = new Random(seed);
        int pool = any();
        int keep = any();
        int window = any();
        x = new TwinVaults(pool, keep, window);
        y = new PlainTwin(pool, keep, window);
    }

    public static void main(String[] args) {
        Due due = new Due();
        for (int seed = 0; seed < RUNS && due.allRight(); seed++) {
            ArgumentsTest run = new ArgumentsTest(seed);
            for (int i = 0; i < CALLS && due.allRight(); i++) {
                run.call(due, run.chance.nextInt(KINDS));
            }
        }
        due.end("ArgumentsTest");
    }

    private int any() {
        return EDGES[chance.nextInt(EDGES.length)];
    }

    /** One that is often good. */
    private int some() {
        return chance.nextInt(3) == 0 ? any() : chance.nextInt(5);
    }

    private void call(Due due, int kind) {
        int a = some();
        int b = some();
        int c = some();
        int d = some();
        int e = some();
        String name = "kind " + kind + " with " + a + ", " + b + ", " + c + ", " + d + ", " + e;
        due.is(name, kind < 16 ? change(kind, a, b, c, d, e, true) : tell(kind, a, b, c, d, true),
                kind < 16 ? change(kind, a, b, c, d, e, false) : tell(kind, a, b, c, d, false));
    }

    private long change(int kind, int a, int b, int c, int d, int e, boolean real) {
        switch (kind) {
            case 0: return real ? x.group(a, b) : y.group(a, b);
            case 1: return real ? x.write(a, b, c, d) : y.write(a, b, c, d);
            case 2: return real ? x.fill(a, b, c, d, e) : y.fill(a, b, c, d, e);
            case 3: return real ? x.flush(a) : y.flush(a);
            case 4: return real ? x.checkpoint(a) : y.checkpoint(a);
            case 5: return real ? x.snapshot(a) : y.snapshot(a);
            case 6: return real ? x.leave(a) : y.leave(a);
            case 7: return real ? x.stay(a) : y.stay(a);
            case 8: return real ? x.force(a) : y.force(a);
            case 9: return real ? x.back(a) : y.back(a);
            case 10: return (real ? x.period(a) : y.period(a)) ? 1 : 0;
            case 11: return real ? x.tick() : y.tick();
            case 12: return (real ? x.power(a, b) : y.power(a, b)) ? 1 : 0;
            case 13: return (real ? x.crash(a) : y.crash(a)) ? 1 : 0;
            case 14: return real ? x.up(a) : y.up(a);
            default: return real ? x.pass(a, b) : y.pass(a, b);
        }
    }

    private long tell(int kind, int a, int b, int c, int d, boolean real) {
        switch (kind) {
            case 16: return real ? x.message(a, b) : y.message(a, b);
            case 17: return real ? Due.item(x, a, b, c) : y.item(a, b, c);
            case 18: return real ? Due.read(x, a, b, c) : y.read(a, b, c);
            case 19: return real ? Due.old(x, a, b, c, d) : y.old(a, b, c, d);
            case 20: return real ? Due.sum(x, a, b) : y.sum(a, b);
            case 21: return real ? Due.differ(x, a, b, c) : y.differ(a, b, c);
            case 22: return real ? x.state(a, b) : y.state(a, b);
            case 23: return real ? x.snap(a, b, c) : y.snap(a, b, c);
            case 24: return real ? Due.lost(x, a, b, c) : y.lost(a, b, c);
            default: return real ? x.total(a) : y.total(a);
        }
    }
}
