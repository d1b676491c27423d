import java.util.ArrayList;
import java.util.Collections;
import java.util.IdentityHashMap;
import java.util.List;
import java.util.Map;
import java.util.Set;
import java.util.TreeMap;
import java.util.TreeSet;

/**
 * The document once more, in the slowest and plainest form: lines are lists of writes, blocks are counted from
 * nothing each time. CompareTest sets it beside TwinVaults.
 */
final class PlainTwin {
    static final int NONE = -1, BAD = -2, DOWN = -3, ROLE = -4, LIMIT = -5, FULL = -6;
    static final int COPY = 0, PRIMARY = 1, LEAVING = 2, FENCED = 3;

    /** Power failed: what the site was doing ends. */
    private static final class Dark extends RuntimeException {
        private static final long serialVersionUID = 1;
    }

    static final class Write {
        final int volume;
        final int place;
        final int number;

        Write(int volume, int place, int number) {
            this.volume = volume;
            this.place = place;
            this.number = number;
        }

        long at() {
            return volume * 10000L + place;
        }
    }

    static final class Snapshot {
        int id;
        List<Write> line;
    }

    static final class Message {
        int kind;
        int sender;
        int epoch;
        int a;
        int b;
        int c;
        int d;
        List<int[]> items = new ArrayList<>();
        List<Write> line;
    }

    static final class Store {
        int h;
        int volumes;
        int places;
        List<Write> now = new ArrayList<>();
        List<Write> safe = new ArrayList<>();
        List<Write> kept = new ArrayList<>();
        List<Snapshot> snapshots = new ArrayList<>();
        int role;
        int epoch = 1;
        int taken;
        int acked;
        int target;
        int[] held = new int[2];
        int gift;
        int base;
        int phase;
        int chunks;
        int next;
        int wait;
        boolean returning;
        boolean stages;
        int stagedBase;
        int stagedId;
        int stagedWanted;
        int stagedLength;
        int stagedChunks;
        List<int[]> staged = new ArrayList<>();
        List<Write> stagedLine;
        int refused;
        List<int[]> lost = new ArrayList<>();
    }

    /** How often what happened, so that the comparison can tell that it has met all of it. */
    final Map<String, Integer> met = new TreeMap<>();

    private final int pool;
    private final int keep;
    private final int window;
    private final Store[] stores = new Store[8];
    private final boolean[] up = {true, true};
    private final int[] acts = new int[2];
    private final int[] left = {NONE, NONE};
    private final List<Message> flight = new ArrayList<>();
    private int groups;
    private int time;
    private int period;
    private int made;
    private int sent;
    private int lostAtOnce;

    PlainTwin(int pool, int keep, int window) {
        this.pool = pool < 16 ? 16 : pool > 8192 ? 8192 : pool;
        this.keep = keep < 2 ? 2 : keep > 8 ? 8 : keep;
        this.window = window < 1 ? 1 : window > 8 ? 8 : window;
    }

    private void meet(String what) {
        met.merge(what, 1, Integer::sum);
    }

    // ---- lines

    private static boolean isPlace(Store s, int volume, int place) {
        return volume >= 0 && volume < s.volumes && place >= 0 && place < s.places;
    }

    private static int holds(List<Write> line, int volume, int place) {
        int number = 0;
        for (Write w : line) {
            if (w.volume == volume && w.place == place) {
                number = w.number;
            }
        }
        return number;
    }

    private static List<Write> behind(List<Write> line, List<Write> start) {
        for (int i = 0; i < start.size(); i++) {
            if (line.get(i) != start.get(i)) {
                throw new AssertionError("a line does not begin with the one before");
            }
        }
        return new ArrayList<>(line.subList(start.size(), line.size()));
    }

    private static TreeSet<Long> written(List<Write> row) {
        TreeSet<Long> places = new TreeSet<>();
        for (Write w : row) {
            places.add(w.at());
        }
        return places;
    }

    private static int nodes(Set<Long> places) {
        Set<Long> all = new TreeSet<>();
        for (long at : places) {
            long volume = at / 10000;
            long place = at % 10000;
            all.add(1000000 + volume * 10000 + place / 16);
            all.add(2000000 + volume * 10000 + place / 256);
            all.add(3000000 + volume);
        }
        return all.size();
    }

    private static void addLast(Map<Write, Integer> needed, List<Write> line) {
        Map<Long, Write> last = new TreeMap<>();
        for (Write w : line) {
            last.put(w.at(), w);
        }
        for (Write w : last.values()) {
            needed.put(w, 1);
        }
    }

    private static int blocks(Store s) {
        Map<Write, Integer> needed = new IdentityHashMap<>();
        addLast(needed, s.now);
        addLast(needed, s.kept);
        for (Snapshot p : s.snapshots) {
            addLast(needed, p.line);
        }
        return needed.size() + s.staged.size();
    }

    private int free(int site) {
        int n = pool;
        for (int h = 4 * site; h < 4 * site + 4; h++) {
            if (stores[h] != null) {
                n -= blocks(stores[h]);
            }
        }
        if (n < 0) {
            throw new AssertionError("more blocks are needed than there are");
        }
        return n;
    }

    private static int latest(Store s) {
        return s.snapshots.isEmpty() ? 0 : s.snapshots.get(s.snapshots.size() - 1).id;
    }

    private static Snapshot find(Store s, int id) {
        for (Snapshot p : s.snapshots) {
            if (p.id == id) {
                return p;
            }
        }
        return null;
    }

    private static List<Write> lineOf(Store s, int id) {
        if (id == 0) {
            return new ArrayList<>();
        }
        Snapshot p = find(s, id);
        if (p == null) {
            throw new AssertionError("a line is asked for that the store does not have");
        }
        return p.line;
    }

    private static boolean nowIsLatest(Store s) {
        return s.now.equals(lineOf(s, latest(s)));
    }

    // ---- acts

    private void act(int site) {
        if (left[site] == 0) {
            up[site] = false;
            left[site] = NONE;
            throw new Dark();
        }
        if (left[site] > 0) {
            left[site]--;
        }
        acts[site]++;
    }

    private void act(Store s) {
        act(s.h / 4);
    }

    private void flushStore(Store s) {
        int pending = s.now.size() - s.safe.size();
        if (s.safe.size() - s.kept.size() + pending > 512) {
            meet("checkpoint instead of flush");
            checkpointStore(s);
            return;
        }
        while (s.safe.size() < s.now.size()) {
            act(s);
            int to = Math.min(s.safe.size() + 8, s.now.size());
            s.safe = new ArrayList<>(s.now.subList(0, to));
        }
    }

    private int checkpointStore(Store s) {
        if (s.now.size() == s.kept.size()) {
            return 0;
        }
        int n = nodes(written(behind(s.now, s.kept))) + 1;
        for (int i = 0; i < n; i++) {
            act(s);
        }
        s.safe = new ArrayList<>(s.now);
        s.kept = new ArrayList<>(s.now);
        return n;
    }

    private void shelve(Store s, int id) {
        if (id <= latest(s)) {
            throw new AssertionError("IDS do not rise");
        }
        Snapshot p = new Snapshot();
        p.id = id;
        p.line = new ArrayList<>(s.now);
        s.snapshots.add(p);
    }

    private void thin(Store s) {
        while (s.snapshots.size() > keep) {
            Snapshot oldest = null;
            for (Snapshot p : s.snapshots) {
                boolean pinned = p.id == latest(s) || p.id == s.acked || p.id == s.target || p.id == s.base
                        || p.id == s.held[0] || p.id == s.held[1];
                if (!pinned) {
                    oldest = p;
                    break;
                }
            }
            if (oldest == null) {
                meet("all pinned");
                return;
            }
            meet("thinned");
            s.snapshots.remove(oldest);
        }
    }

    private void take(Store s) {
        checkpointStore(s);
        act(s);
        s.taken++;
        shelve(s, 4096 * s.epoch + s.taken);
        thin(s);
    }

    private static void unstage(Store s) {
        s.stages = false;
        s.stagedBase = 0;
        s.stagedId = 0;
        s.stagedWanted = 0;
        s.stagedChunks = 0;
        s.staged = new ArrayList<>();
        s.stagedLine = null;
    }

    private static int nextEpoch(int epoch, int rest) {
        int e = epoch + 1;
        while (e % 4 != rest) {
            e++;
        }
        return e;
    }

    // ---- the calls

    private Store store(int h) {
        return h >= 0 && h <= 7 ? stores[h] : null;
    }

    private boolean isUp(Store s) {
        return up[s.h / 4];
    }

    int group(int volumes, int places) {
        if (volumes < 1 || volumes > 8 || places < 1 || places > 4096) {
            return BAD;
        }
        if (groups == 4) {
            return NONE;
        }
        for (int site = 0; site < 2; site++) {
            Store s = new Store();
            s.h = 4 * site + groups;
            s.volumes = volumes;
            s.places = places;
            s.role = site == 0 ? PRIMARY : COPY;
            stores[s.h] = s;
        }
        return groups++;
    }

    private int writeOne(Store s, int volume, int place, int number) {
        if (!isUp(s)) {
            return DOWN;
        }
        if (s.role != PRIMARY) {
            return ROLE;
        }
        if (made == 60000) {
            return LIMIT;
        }
        try {
            if (s.now.size() - s.safe.size() == 64) {
                flushStore(s);
            }
        } catch (Dark e) {
            return DOWN;
        }
        if (free(s.h / 4) == 0) {
            meet("full");
            return FULL;
        }
        s.now.add(new Write(volume, place, number));
        made++;
        return s.now.size() - s.safe.size();
    }

    int write(int h, int volume, int place, int number) {
        Store s = store(h);
        if (s == null || !isPlace(s, volume, place)) {
            return BAD;
        }
        return writeOne(s, volume, place, number);
    }

    int fill(int h, int volume, int place, int n, int number) {
        Store s = store(h);
        if (s == null || n < 1 || n > 4096 || !isPlace(s, volume, place) || !isPlace(s, volume, place + n - 1)) {
            return BAD;
        }
        for (int i = 0; i < n; i++) {
            int answer = writeOne(s, volume, place + i, number + i);
            if (answer < 0) {
                return i == 0 ? answer : i;
            }
        }
        return n;
    }

    int flush(int h) {
        Store s = store(h);
        if (s == null) {
            return BAD;
        }
        if (!isUp(s)) {
            return DOWN;
        }
        try {
            flushStore(s);
        } catch (Dark e) {
            return DOWN;
        }
        return s.safe.size() - s.kept.size();
    }

    int checkpoint(int h) {
        Store s = store(h);
        if (s == null) {
            return BAD;
        }
        if (!isUp(s)) {
            return DOWN;
        }
        try {
            return checkpointStore(s);
        } catch (Dark e) {
            return DOWN;
        }
    }

    int snapshot(int h) {
        Store s = store(h);
        if (s == null) {
            return BAD;
        }
        if (!isUp(s)) {
            return DOWN;
        }
        if (s.role != PRIMARY) {
            return ROLE;
        }
        if (nowIsLatest(s)) {
            return 0;
        }
        try {
            take(s);
        } catch (Dark e) {
            return DOWN;
        }
        return latest(s);
    }

    int leave(int h) {
        Store s = store(h);
        if (s == null) {
            return BAD;
        }
        if (!isUp(s)) {
            return DOWN;
        }
        if (s.role != PRIMARY) {
            return ROLE;
        }
        try {
            if (!nowIsLatest(s)) {
                take(s);
            }
            act(s);
        } catch (Dark e) {
            return DOWN;
        }
        s.role = LEAVING;
        s.gift = 0;
        return latest(s);
    }

    int stay(int h) {
        Store s = store(h);
        if (s == null) {
            return BAD;
        }
        if (!isUp(s)) {
            return DOWN;
        }
        if (s.role != LEAVING || s.gift != 0) {
            return ROLE;
        }
        try {
            act(s);
        } catch (Dark e) {
            return DOWN;
        }
        meet("stayed");
        s.role = PRIMARY;
        return 0;
    }

    int force(int h) {
        Store s = store(h);
        if (s == null) {
            return BAD;
        }
        if (!isUp(s)) {
            return DOWN;
        }
        if (s.role != COPY && s.role != FENCED) {
            return ROLE;
        }
        try {
            if (s.role == FENCED) {
                checkpointStore(s);
            }
            act(s);
        } catch (Dark e) {
            return DOWN;
        }
        if (s.role == COPY) {
            meet("forced copy");
            s.held = new int[] {latest(s), 0};
        } else if (s.held[0] == 0 && s.held[1] == 0) {
            meet(s.target != 0 ? "forced fenced, target held" : "forced fenced");
            s.held = new int[] {s.acked, s.target};
        } else {
            meet("forced fenced, held before");
        }
        s.role = PRIMARY;
        s.epoch = nextEpoch(s.epoch, h < 4 ? 3 : 0);
        s.taken = 1;
        shelve(s, 4096 * s.epoch + 1);
        s.acked = 0;
        s.target = 0;
        s.base = 0;
        s.phase = 0;
        s.wait = 0;
        s.returning = false;
        unstage(s);
        thin(s);
        return s.epoch;
    }

    int back(int h) {
        Store s = store(h);
        if (s == null) {
            return BAD;
        }
        if (!isUp(s)) {
            return DOWN;
        }
        if (s.role != FENCED) {
            return ROLE;
        }
        s.returning = true;
        s.wait = 0;
        hello(s);
        return 0;
    }

    boolean period(int n) {
        if (n < 0 || n > 1000) {
            return false;
        }
        period = n;
        return true;
    }

    int tick() {
        time++;
        for (Store s : stores) {
            if (s == null || !isUp(s)) {
                continue;
            }
            try {
                tickStore(s);
            } catch (Dark e) {
                meet("dark in a tick");
            }
        }
        return time;
    }

    private void tickStore(Store s) {
        if (s.role == PRIMARY && period > 0 && time % period == 0 && !nowIsLatest(s) && s.taken < 4095) {
            take(s);
        }
        if (s.role == PRIMARY || s.role == LEAVING) {
            if (s.target == 0 && latest(s) != s.acked) {
                act(s);
                s.target = latest(s);
                s.base = s.acked;
                offer(s);
            } else if (s.target != 0) {
                s.wait++;
                if (s.wait >= 8) {
                    offer(s);
                }
            } else if (s.role == LEAVING) {
                if (s.gift == 0) {
                    act(s);
                    s.gift = nextEpoch(s.epoch, s.h < 4 ? 2 : 1);
                    s.wait = 0;
                    give(s);
                } else {
                    s.wait++;
                    if (s.wait >= 8) {
                        meet("gave again");
                        s.wait = 0;
                        give(s);
                    }
                }
            }
        }
        if (s.role == FENCED && s.returning) {
            s.wait++;
            if (s.wait >= 8) {
                meet("hello again");
                s.wait = 0;
                hello(s);
            }
        }
    }

    boolean power(int site, int n) {
        if (site != 0 && site != 1 || n < -1 || n > 100000) {
            return false;
        }
        left[site] = n;
        return true;
    }

    boolean crash(int site) {
        if (site != 0 && site != 1 || !up[site]) {
            return false;
        }
        up[site] = false;
        left[site] = NONE;
        return true;
    }

    int up(int site) {
        if (site != 0 && site != 1) {
            return BAD;
        }
        if (up[site]) {
            return NONE;
        }
        up[site] = true;
        int gone = 0;
        for (int h = 4 * site; h < 4 * site + 4; h++) {
            Store s = stores[h];
            if (s != null) {
                gone += s.now.size() - s.safe.size();
                s.now = new ArrayList<>(s.safe);
                s.base = s.acked;
                s.phase = 0;
                s.chunks = 0;
                s.next = 0;
                s.wait = 0;
                s.returning = false;
            }
        }
        if (gone > 0) {
            meet("pending lost");
        }
        return gone;
    }

    // ---- messages

    private Message letter(Store s, int kind, int a, int b, int c, int d) {
        Message m = new Message();
        m.kind = kind;
        m.sender = s.h;
        m.epoch = s.epoch;
        m.a = a;
        m.b = b;
        m.c = c;
        m.d = d;
        return m;
    }

    private void post(Message m) {
        sent++;
        if (flight.size() == 60) {
            lostAtOnce++;
            meet("no room on the link");
        } else {
            flight.add(m);
        }
    }

    private List<Long> difference(Store s) {
        return new ArrayList<>(written(behind(lineOf(s, s.target), lineOf(s, s.base))));
    }

    private void offer(Store s) {
        s.phase = 1;
        s.wait = 0;
        List<Write> line = lineOf(s, s.target);
        Message m = letter(s, 1, s.base, s.target, difference(s).size(), line.size());
        m.line = new ArrayList<>(line);
        post(m);
    }

    private void give(Store s) {
        post(letter(s, 8, 0, latest(s), s.gift, 0));
    }

    private void hello(Store s) {
        Message m = letter(s, 10, 0, 0, 0, 0);
        for (Snapshot p : s.snapshots) {
            m.items.add(0, new int[] {p.id, 0, 0});
        }
        post(m);
    }

    private void sendOn(Store s) {
        List<Long> places = difference(s);
        while (s.next < s.chunks + window && 4 * s.next < places.size()) {
            Message m = letter(s, 3, s.base, s.target, s.next, 0);
            for (int i = 4 * s.next; i < 4 * s.next + 4 && i < places.size(); i++) {
                int volume = (int) (places.get(i) / 10000);
                int place = (int) (places.get(i) % 10000);
                m.items.add(new int[] {volume, place, holds(lineOf(s, s.target), volume, place)});
            }
            post(m);
            s.next++;
        }
    }

    int pass(int i, int how) {
        if (i < 0 || i >= flight.size() || how < 0 || how > 2) {
            return NONE;
        }
        Message m = flight.get(i);
        if (how != 2) {
            flight.remove(i);
        }
        if (how != 0) {
            try {
                receive(stores[(m.sender + 4) % 8], m);
            } catch (Dark e) {
                meet("dark at kind " + m.kind);
            }
        }
        return 1;
    }

    private void receive(Store s, Message m) {
        if (!isUp(s)) {
            return;
        }
        if (m.epoch < s.epoch) {
            if (m.kind == 1 || m.kind == 3 || m.kind == 8) {
                meet("fenced off kind " + m.kind);
                post(letter(s, 7, 0, 0, 0, 0));
            }
            return;
        }
        if (m.epoch > s.epoch) {
            act(s);
            s.epoch = m.epoch;
            s.taken = 0;
            if (s.role == PRIMARY) {
                meet("primary fenced");
                s.role = FENCED;
            } else if (s.role == LEAVING && s.gift == m.epoch) {
                meet("left");
                s.role = COPY;
                s.target = 0;
                s.acked = 0;
                s.base = 0;
                s.held = new int[2];
                s.gift = 0;
            } else if (s.role == LEAVING) {
                meet("leaving fenced");
                s.role = FENCED;
                s.gift = 0;
            }
            s.phase = 0;
            if (s.stages) {
                meet("staged went with the epoch");
            }
            unstage(s);
        }
        boolean source = s.role == PRIMARY || s.role == LEAVING;
        if (m.kind == 1 && s.role == COPY) {
            onOffer(s, m);
        } else if (m.kind == 2 && source && s.phase == 1 && s.base == m.a && s.target == m.b) {
            s.phase = 2;
            s.chunks = m.c;
            s.next = m.c;
            s.wait = 0;
            sendOn(s);
        } else if (m.kind == 3 && s.role == COPY && s.stages && s.stagedBase == m.a && s.stagedId == m.b) {
            onData(s, m);
        } else if (m.kind == 4 && source && s.phase == 2 && s.base == m.a && s.target == m.b) {
            if (m.c > s.chunks) {
                s.chunks = m.c;
                s.next = Math.max(s.next, m.c);
                s.wait = 0;
            }
            sendOn(s);
        } else if (m.kind == 5 && source && s.target == m.b && m.b != 0) {
            act(s);
            s.acked = m.b;
            s.base = m.b;
            s.target = 0;
            s.phase = 0;
            s.wait = 0;
            thin(s);
        } else if (m.kind == 6 && source && s.target != 0 && (s.phase == 1 || s.phase == 2)) {
            boolean known = m.b == 0 || find(s, m.b) != null && m.b < s.target;
            meet(known ? m.b == 0 ? "lacks all" : "lacks some" : "lacks what is unknown");
            s.base = known ? m.b : 0;
            offer(s);
        } else if (m.kind == 8 && s.role == COPY && m.b == latest(s)) {
            onGive(s, m);
        } else if (m.kind == 10 && s.role == PRIMARY && s.acked <= 4096 * s.epoch) {
            onHello(s, m);
        } else if (m.kind == 11 && s.role == FENCED && s.returning && (m.b == 0 || find(s, m.b) != null)) {
            onCommon(s, m);
        }
    }

    private void onOffer(Store s, Message m) {
        if (m.b == latest(s)) {
            post(letter(s, 5, 0, m.b, 0, 0));
        } else if (m.b < latest(s)) {
            meet("an old offer");
        } else if (m.a != 0 && m.a != latest(s)) {
            post(letter(s, 6, 0, latest(s), 0, 0));
        } else {
            if (!s.stages || s.stagedBase != m.a || s.stagedId != m.b) {
                act(s);
                unstage(s);
                s.stages = true;
                s.stagedBase = m.a;
                s.stagedId = m.b;
                s.stagedWanted = m.c;
                s.stagedLength = m.d;
                s.stagedLine = m.line;
            }
            if (s.staged.size() == s.stagedWanted) {
                meet(s.staged.isEmpty() ? "committed nothing" : "committed at an offer");
                commit(s);
            } else {
                meet(s.stagedChunks > 0 ? "accepted the rest" : "accepted");
                post(letter(s, 2, m.a, m.b, s.stagedChunks, 0));
            }
        }
    }

    private void onData(Store s, Message m) {
        if (m.c < s.stagedChunks || s.staged.size() == s.stagedWanted) {
            meet("doubled data");
            post(letter(s, 4, m.a, m.b, s.stagedChunks, 0));
        } else if (m.c > s.stagedChunks) {
            meet("data ahead");
        } else if (free(s.h / 4) < m.items.size()) {
            meet("refused");
            s.refused++;
        } else {
            act(s);
            s.staged.addAll(m.items);
            s.stagedChunks++;
            if (s.staged.size() == s.stagedWanted) {
                commit(s);
            } else {
                post(letter(s, 4, m.a, m.b, s.stagedChunks, 0));
            }
        }
    }

    private void commit(Store s) {
        Set<Long> places = new TreeSet<>();
        for (int[] item : s.staged) {
            places.add(item[0] * 10000L + item[1]);
        }
        int n = nodes(places) + 1;
        for (int i = 0; i < n; i++) {
            act(s);
        }
        lookAtStaged(s);
        meet(s.stagedBase == 0 ? "committed a whole" : "committed a difference");
        s.now = new ArrayList<>(s.stagedLine);
        s.safe = new ArrayList<>(s.stagedLine);
        s.kept = new ArrayList<>(s.stagedLine);
        if (s.stagedBase == 0) {
            if (!s.snapshots.isEmpty()) {
                meet("older ones went");
            }
            s.snapshots.clear();
        }
        int id = s.stagedId;
        shelve(s, id);
        unstage(s);
        thin(s);
        post(letter(s, 5, 0, id, 0, 0));
    }

    /** What was sent in pieces, laid over what was there, is the sender's line. */
    private static void lookAtStaged(Store s) {
        Map<Long, Integer> got = new TreeMap<>();
        for (Write w : lineOf(s, s.stagedBase)) {
            got.put(w.at(), w.number);
        }
        for (int[] item : s.staged) {
            got.put(item[0] * 10000L + item[1], item[2]);
        }
        Map<Long, Integer> want = new TreeMap<>();
        for (Write w : s.stagedLine) {
            want.put(w.at(), w.number);
        }
        if (!got.equals(want) || s.stagedLine.size() != s.stagedLength) {
            throw new AssertionError("what is staged is not the line");
        }
    }

    private void onGive(Store s, Message m) {
        act(s);
        meet("took");
        s.epoch = m.c;
        s.role = PRIMARY;
        s.acked = m.b;
        s.base = m.b;
        s.target = 0;
        s.held = new int[2];
        s.taken = 1;
        shelve(s, 4096 * m.c + 1);
        unstage(s);
        thin(s);
        post(letter(s, 9, 0, 0, 0, 0));
    }

    private void onHello(Store s, Message m) {
        int common = 0;
        for (int[] item : m.items) {
            if (common == 0 && find(s, item[0]) != null) {
                common = item[0];
            }
        }
        act(s);
        meet(common == 0 ? "nothing in common" : "something in common");
        s.acked = common;
        s.held = new int[2];
        if (s.target == common) {
            s.target = 0;
        }
        s.base = common;
        s.phase = 0;
        s.wait = 0;
        thin(s);
        post(letter(s, 11, 0, common, 0, 0));
    }

    private void onCommon(Store s, Message m) {
        act(s);
        List<Write> line = lineOf(s, m.b);
        s.lost = new ArrayList<>();
        for (long at : written(behind(s.now, line))) {
            int volume = (int) (at / 10000);
            int place = (int) (at % 10000);
            s.lost.add(new int[] {volume, place, holds(s.now, volume, place)});
        }
        meet(s.lost.isEmpty() ? "way back, nothing lost" : "way back, lost");
        s.now = new ArrayList<>(line);
        s.safe = new ArrayList<>(line);
        s.kept = new ArrayList<>(line);
        while (latest(s) != m.b) {
            s.snapshots.remove(s.snapshots.size() - 1);
        }
        s.role = COPY;
        s.acked = 0;
        s.target = 0;
        s.base = 0;
        s.held = new int[2];
        s.returning = false;
        thin(s);
    }

    // ---- what is told

    int message(int i, int what) {
        if (i < 0 || i >= flight.size() || what < 0 || what > 7) {
            return NONE;
        }
        Message m = flight.get(i);
        return new int[] {m.kind, m.sender, m.epoch, m.a, m.b, m.c, m.d, m.items.size()}[what];
    }

    long item(int i, int k, int what) {
        if (i < 0 || i >= flight.size() || k < 0 || k >= flight.get(i).items.size() || what < 0 || what > 2) {
            return Due.OUT_OF_BOUNDS;
        }
        return flight.get(i).items.get(k)[what];
    }

    long read(int h, int volume, int place) {
        Store s = store(h);
        if (s == null || !isPlace(s, volume, place)) {
            return Due.OUT_OF_BOUNDS;
        }
        return isUp(s) ? holds(s.now, volume, place) : Due.ILLEGAL_STATE;
    }

    private static boolean isSnapshot(Store s, int k) {
        return k >= 0 && k < s.snapshots.size();
    }

    long old(int h, int k, int volume, int place) {
        Store s = store(h);
        if (s == null || !isSnapshot(s, k) || !isPlace(s, volume, place)) {
            return Due.OUT_OF_BOUNDS;
        }
        return isUp(s) ? holds(s.snapshots.get(k).line, volume, place) : Due.ILLEGAL_STATE;
    }

    long sum(int h, int volume) {
        Store s = store(h);
        if (s == null || !isPlace(s, volume, 0)) {
            return Due.OUT_OF_BOUNDS;
        }
        if (!isUp(s)) {
            return Due.ILLEGAL_STATE;
        }
        Map<Long, Integer> held = new TreeMap<>();
        for (Write w : s.now) {
            held.put(w.at(), w.number);
        }
        int total = 0;
        for (int place = 0; place < s.places; place++) {
            total = 31 * total + held.getOrDefault(volume * 10000L + place, 0);
        }
        return total;
    }

    long differ(int h, int i, int j) {
        Store s = store(h);
        if (s == null || !isSnapshot(s, i) || !isSnapshot(s, j) || i > j) {
            return Due.OUT_OF_BOUNDS;
        }
        if (!isUp(s)) {
            return Due.ILLEGAL_STATE;
        }
        return written(behind(s.snapshots.get(j).line, s.snapshots.get(i).line)).size();
    }

    int state(int h, int what) {
        Store s = store(h);
        if (s == null || what < 0 || what > 24) {
            return BAD;
        }
        return new int[] {s.role, s.epoch, s.now.size(), s.safe.size(), s.kept.size(), s.snapshots.size(), latest(s),
            s.acked, s.target, s.held[0], s.held[1], s.gift, s.base, s.phase, s.chunks, s.next, s.wait,
            s.returning ? 1 : 0, s.stagedChunks, s.staged.size(), s.stagedId, s.refused, s.lost.size(),
            what == 23 ? blocks(s) : 0, s.taken}[what];
    }

    int snap(int h, int k, int what) {
        Store s = store(h);
        if (s == null || !isSnapshot(s, k) || what < 0 || what > 1) {
            return BAD;
        }
        return what == 0 ? s.snapshots.get(k).id : s.snapshots.get(k).line.size();
    }

    long lost(int h, int i, int what) {
        Store s = store(h);
        if (s == null || i < 0 || i >= s.lost.size() || what < 0 || what > 2) {
            return Due.OUT_OF_BOUNDS;
        }
        return s.lost.get(i)[what];
    }

    int total(int what) {
        switch (what) {
            case 0: return time;
            case 1: return groups;
            case 2: return made;
            case 3: return flight.size();
            case 4: return sent;
            case 5: return lostAtOnce;
            case 10: return up[0] ? 1 : 0;
            case 11: return acts[0];
            case 12: return free(0);
            case 13: return left[0];
            case 20: return up[1] ? 1 : 0;
            case 21: return acts[1];
            case 22: return free(1);
            case 23: return left[1];
            default: return NONE;
        }
    }

    List<Snapshot> snapshotsOf(int h) {
        return stores[h] == null ? Collections.emptyList() : stores[h].snapshots;
    }

    Store look(int h) {
        return stores[h];
    }
}
