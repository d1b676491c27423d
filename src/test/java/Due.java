/** Compares answers with those that are due, and prints each that is not. */
final class Due {
    /** What stands for an exception where an answer is compared. */
    static final long OUT_OF_BOUNDS = Long.MAX_VALUE, ILLEGAL_STATE = Long.MAX_VALUE - 1;

    private int asked;
    private int wrong;

    void is(String call, long got, long want) {
        asked++;
        if (got != want) {
            wrong++;
            System.out.println(call + " answered " + told(got) + ", due is " + told(want));
        }
    }

    void is(String call, boolean got, boolean want) {
        is(call, got ? 1 : 0, want ? 1 : 0);
    }

    private static String told(long answer) {
        if (answer == OUT_OF_BOUNDS) {
            return "throws.IndexOutOfBoundsException";
        }
        return answer == ILLEGAL_STATE ? "throws.IllegalStateException" : Long.toString(answer);
    }

    long asked() {
        return asked;
    }

    boolean allRight() {
        return wrong == 0;
    }

    /** Ends the test: exit code 1 if an answer was wrong. */
    void end(String name) {
        System.out.println(name + ": " + asked + " answers, " + wrong + " wrong");
        if (wrong != 0 || asked == 0) {
            System.exit(1);
        }
    }

    // The calls that may throw, with the exception as an answer. What the machine throws is of a class of its own
    // below IndexOutOfBoundsException: only the very class that the document names counts.

    static long read(TwinVaults x, int h, int volume, int place) {
        try {
            return x.read(h, volume, place);
        } catch (IndexOutOfBoundsException | IllegalStateException e) {
            return named(e);
        }
    }

    static long old(TwinVaults x, int h, int k, int volume, int place) {
        try {
            return x.old(h, k, volume, place);
        } catch (IndexOutOfBoundsException | IllegalStateException e) {
            return named(e);
        }
    }

    static long sum(TwinVaults x, int h, int volume) {
        try {
            return x.sum(h, volume);
        } catch (IndexOutOfBoundsException | IllegalStateException e) {
            return named(e);
        }
    }

    static long differ(TwinVaults x, int h, int i, int j) {
        try {
            return x.differ(h, i, j);
        } catch (IndexOutOfBoundsException | IllegalStateException e) {
            return named(e);
        }
    }

    static long item(TwinVaults x, int i, int k, int what) {
        try {
            return x.item(i, k, what);
        } catch (IndexOutOfBoundsException e) {
            return named(e);
        }
    }

    static long lost(TwinVaults x, int h, int i, int what) {
        try {
            return x.lost(h, i, what);
        } catch (IndexOutOfBoundsException e) {
            return named(e);
        }
    }

    private static long named(RuntimeException e) {
        if (e.getClass() == IndexOutOfBoundsException.class) {
            return OUT_OF_BOUNDS;
        }
        if (e.getClass() == IllegalStateException.class) {
            return ILLEGAL_STATE;
        }
        throw e;
    }
}
