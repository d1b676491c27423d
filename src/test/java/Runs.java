/** What many runs have in common. */
final class Runs {
    private Runs() {
    }

    /** Passes the first message on till there is none. */
    static void passAll(TwinVaults x) {
        for (int i = 0; i < 500 && x.total(3) > 0; i++) {
            x.pass(0, 1);
        }
    }

    /** So many ticks, and all messages behind each. */
    static void settle(TwinVaults x, int ticks) {
        for (int i = 0; i < ticks; i++) {
            x.tick();
            passAll(x);
        }
    }

    /** Of the i-th message: its KIND, sender, EPOCH, A to D and how many items. */
    static void message(Due due, TwinVaults x, int i, int... want) {
        for (int what = 0; what < 8; what++) {
            due.is("message " + i + ", what " + what, x.message(i, what), want[what]);
        }
    }

    /** Of a store: pairs of what is asked and what is due. */
    static void state(Due due, TwinVaults x, String when, int h, int... pairs) {
        for (int k = 0; k + 1 < pairs.length; k += 2) {
            due.is(when + ": state(" + h + ", " + pairs[k] + ")", x.state(h, pairs[k]), pairs[k + 1]);
        }
    }

    static void lost(Due due, TwinVaults x, int h, int i, int volume, int place, int number) {
        due.is("lost place " + i + "'s volume", Due.lost(x, h, i, 0), volume);
        due.is("lost place " + i, Due.lost(x, h, i, 1), place);
        due.is("lost place " + i + "'s number", Due.lost(x, h, i, 2), number);
    }
}
