import java.io.IOException;
import java.nio.file.Files;
import java.nio.file.Path;
import java.util.ArrayList;
import java.util.Arrays;
import java.util.List;
import java.util.Set;
import java.util.TreeSet;

/**
 * Runs of calls, each for one sentence of the document that names a boundary case, written as
 *
 * <pre>
 *   new 64 3 2; group 1 40 = 0          # a new object; calls with the answer that is due
 *   8 * tick                            # so often, whatever it answers
 *   state 0 : 0=1 6=4097                # one more number behind, and what is due for each
 *   message 0 = 1 0 1 0 4097 9 9 0      # more answers than one: with 0, 1, 2 .. behind
 *   snaps 0 = 4097 4098                 # the IDS of all its snapshots
 *   all                                 # pass 0 1, till none is in flight
 *   mark; crash 2 = false; unchanged    # all that can be told is as it was
 *   set 0 taken 4093                    # a state that no calls lead to: of a store,
 *   rename 0 1 4090                     # of the ID of its snapshot 1,
 *   forge 0 b 0                         # of the first message in flight
 * </pre>
 *
 * No run asks more of an object than the 512 calls for which its answers are promised.
 */
final class Edges {
    private static final int MOST_CALLS = 512;
    private static final String[] NAMES = {"FULL", "LIMIT", "ROLE", "DOWN", "BAD", "NONE"};
    private static final Path DOCUMENT = Path.of("..", "shared", "DOC.md");

    private final Due due = new Due();
    private final String document;
    private String sentence = "";
    private TwinVaults x;
    private int calls;
    private List<Long> marked;
    private final Set<String> sentences = new TreeSet<>();

    Edges() {
        document = words(textOf(DOCUMENT));
    }

    private static String textOf(Path file) {
        try {
            return Files.exists(file) ? Files.readString(file) : "";
        } catch (IOException e) {
            return "";
        }
    }

    private static String words(String text) {
        return text.trim().replaceAll("\\s+", " ");
    }

    /** A sentence in the document's own words, and a run that fails if it does not hold. */
    void edge(String words, String... runs) {
        sentence = words;
        sentences.add(words);
        if (!document.isEmpty() && !document.contains(words(words))) {
            due.is("the document says: " + words, false, true);
        }
        long before = due.asked();
        for (String run : runs) {
            run(run);
        }
        if (due.asked() == before) {
            due.is("something is asked for: " + words, false, true);
        }
    }

    void end(String name) {
        System.out.println(name + ": " + sentences.size() + " sentences");
        due.end(name);
    }

    private void run(String run) {
        x = null;
        marked = null;
        for (String line : run.split("\n")) {
            for (String step : line.replaceAll("#.*", "").split(";")) {
                if (!step.isBlank()) {
                    step(step.trim());
                }
            }
        }
    }

    private void step(String step) {
        int star = step.indexOf('*');
        int times = star < 0 ? 1 : Integer.parseInt(step.substring(0, star).trim());
        for (int i = 0; i < times; i++) {
            once(step.substring(star + 1).trim());
        }
    }

    private void once(String step) {
        int equal = step.indexOf('=');
        int colon = step.indexOf(':');
        if (colon >= 0) {
            for (String pair : step.substring(colon + 1).trim().split("\\s+")) {
                String[] both = pair.split("=");
                ask(step.substring(0, colon) + " " + both[0], number(both[1]));
            }
        } else if (equal < 0) {
            act(step);
        } else {
            answers(step.substring(0, equal).trim(), step.substring(equal + 1).trim());
        }
    }

    private void answers(String call, String text) {
        String[] all = text.isEmpty() ? new String[0] : text.split("\\s+");
        if (call.startsWith("snaps ")) {
            int h = (int) number(call.substring(6));
            ask("state " + h + " 5", all.length);
            for (int k = 0; k < all.length; k++) {
                ask("snap " + h + " " + k + " 0", number(all[k]));
            }
        } else if (all.length == 1) {
            ask(call, number(all[0]));
        } else {
            for (int what = 0; what < all.length; what++) {
                ask(call + " " + what, number(all[what]));
            }
        }
    }

    private void act(String step) {
        String[] part = step.split("\\s+");
        switch (part[0]) {
            case "new":
                x = new TwinVaults((int) number(part[1]), (int) number(part[2]), (int) number(part[3]));
                calls = 0;
                break;
            case "all":
                for (int i = 0; i < MOST_CALLS && call("total 3") > 0; i++) {
                    call("pass 0 1");
                }
                break;
            case "set":
                Inside.set(Inside.store(x, (int) number(part[1])), part[2], (int) number(part[3]));
                break;
            case "rename":
                Object vault = Inside.get(Inside.store(x, (int) number(part[1])), "vault");
                ((int[]) Inside.get(vault, "ids"))[(int) number(part[2])] = (int) number(part[3]);
                break;
            case "forge":
                Object flight = Inside.get(Inside.get(x, "link"), "flight");
                Inside.set(((Object[]) flight)[(int) number(part[1])], part[2], (int) number(part[3]));
                break;
            case "mark":
                marked = tellAll();
                break;
            case "unchanged":
                due.is(sentence + "\n    what can be told is as it was", tellAll().equals(marked), true);
                break;
            default:
                call(step);
        }
    }

    private void ask(String call, long want) {
        long got = call(call);
        due.is(sentence + "\n    call " + calls + ": " + words(call), got, want);
    }

    private static long number(String word) {
        switch (word) {
            case "MIN": return Integer.MIN_VALUE;
            case "MAX": return Integer.MAX_VALUE;
            case "true": return 1;
            case "false": return 0;
            case "OUT": return Due.OUT_OF_BOUNDS;
            case "DARK": return Due.ILLEGAL_STATE;
            default:
                int k = Arrays.asList(NAMES).indexOf(word);
                return k < 0 ? Long.parseLong(word) : k - NAMES.length;
        }
    }

    private long call(String text) {
        calls++;
        if (calls > MOST_CALLS) {
            throw new AssertionError("more calls than are promised: " + sentence);
        }
        String[] part = words(text).split(" ");
        int[] n = new int[part.length - 1];
        for (int i = 0; i < n.length; i++) {
            n[i] = (int) number(part[i + 1]);
        }
        return n.length == wants(part[0]) ? change(part[0], n) : wrong(text);
    }

    private static long wrong(String text) {
        throw new AssertionError("no such call: " + text);
    }

    private static int wants(String name) {
        switch (name) {
            case "tick": return 0;
            case "flush": case "checkpoint": case "snapshot": case "leave": case "stay": case "force": case "back":
            case "period": case "crash": case "up": case "total": return 1;
            case "group": case "power": case "pass": case "message": case "sum": case "state": return 2;
            case "item": case "read": case "differ": case "snap": case "lost": return 3;
            case "write": case "old": return 4;
            case "fill": return 5;
            default: return -1;
        }
    }

    private long change(String name, int[] n) {
        switch (name) {
            case "group": return x.group(n[0], n[1]);
            case "write": return x.write(n[0], n[1], n[2], n[3]);
            case "fill": return x.fill(n[0], n[1], n[2], n[3], n[4]);
            case "flush": return x.flush(n[0]);
            case "checkpoint": return x.checkpoint(n[0]);
            case "snapshot": return x.snapshot(n[0]);
            case "leave": return x.leave(n[0]);
            case "stay": return x.stay(n[0]);
            case "force": return x.force(n[0]);
            case "back": return x.back(n[0]);
            case "period": return x.period(n[0]) ? 1 : 0;
            case "tick": return x.tick();
            case "power": return x.power(n[0], n[1]) ? 1 : 0;
            case "crash": return x.crash(n[0]) ? 1 : 0;
            case "up": return x.up(n[0]);
            case "pass": return x.pass(n[0], n[1]);
            default: return tell(name, n);
        }
    }

    private long tell(String name, int[] n) {
        switch (name) {
            case "message": return x.message(n[0], n[1]);
            case "item": return Due.item(x, n[0], n[1], n[2]);
            case "read": return Due.read(x, n[0], n[1], n[2]);
            case "old": return Due.old(x, n[0], n[1], n[2], n[3]);
            case "sum": return Due.sum(x, n[0], n[1]);
            case "differ": return Due.differ(x, n[0], n[1], n[2]);
            case "state": return x.state(n[0], n[1]);
            case "snap": return x.snap(n[0], n[1], n[2]);
            case "lost": return Due.lost(x, n[0], n[1], n[2]);
            default: return x.total(n[0]);
        }
    }

    /** All that the telling calls say of what is there, but for single places, of which the sums tell. */
    private List<Long> tellAll() {
        List<Long> told = new ArrayList<>();
        for (int what : new int[] {0, 1, 2, 3, 4, 5, 10, 11, 12, 13, 20, 21, 22, 23}) {
            told.add(call("total " + what));
        }
        long groups = told.get(1);
        for (int h = 0; h < 8; h++) {
            if (h % 4 < groups) {
                tellStore(told, h);
            }
        }
        for (int i = 0; i < told.get(3); i++) {
            for (int what = 0; what < 8; what++) {
                told.add(call("message " + i + " " + what));
            }
        }
        return told;
    }

    private void tellStore(List<Long> told, int h) {
        int first = told.size();
        for (int what = 0; what < 25; what++) {
            told.add(call("state " + h + " " + what));
        }
        for (int k = 0; k < told.get(first + 5); k++) {
            told.add(call("snap " + h + " " + k + " 0"));
            told.add(call("snap " + h + " " + k + " 1"));
        }
        for (int i = 0; i < told.get(first + 22); i++) {
            told.add(call("lost " + h + " " + i + " 2"));
        }
        told.add(call("sum " + h + " 0"));
    }
}
