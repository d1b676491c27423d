/**
 * Two sites with stores of volumes, each the far copy of the other in its turn.
 *
 * <p>A LINE is held as the number of its last write (0: the empty line): every write knows the line that it
 * stands on, so stores that have a line in common share it, and a line that was once made never changes.
 *
 * <p>All rows that have a size are made with the object, for the most that the document lets be there: what the
 * calls make is a few messages each, whatever they are called with.
 */
public final class TwinVaults {
    public static final int NONE = -1, BAD = -2, DOWN = -3, ROLE = -4, LIMIT = -5, FULL = -6;

    private static final int COPY = 0, PRIMARY = 1, LEAVING = 2, FENCED = 3;
    private static final int IDLE = 0, OFFERED = 1, SENDING = 2;
    private static final int OFFER = 1, ACCEPT = 2, DATA = 3, ACK = 4, HAVE = 5, LACK = 6, FENCE = 7, GIVE = 8,
            TOOK = 9, HELLO = 10, COMMON = 11;
    private static final int DONE = 0;
    private static final int GROUPS = 4, STORES = 8, MOST_VOLUMES = 8, MOST_PLACES = 4096;
    private static final int MOST_WRITES = 60000, MOST_PENDING = 64, MOST_UNKEPT = 512, SAVED_AT_ONCE = 8;
    private static final int EPOCH_SPAN = 4096, MOST_TAKEN = 4095, PATIENCE = 8, CHUNK = 4;
    private static final int MOST_IN_FLIGHT = 60, MOST_PERIOD = 1000, MOST_POWER = 100000;
    // KEEP is at most 8 and at most 6 are PINNED, so a ninth is there only till THINNING.
    private static final int SHELF_ROOM = 16;

    private final int pool;
    private final int keep;
    private final int window;
    private final Site[] sites;
    private final Store[] stores;
    private final Writes writes;
    private final Link link;
    private int groups;
    private int time;
    private int every;

    public TwinVaults(int pool, int keep, int window) {
        this.pool = Math.max(16, Math.min(8192, pool));
        this.keep = Math.max(2, Math.min(8, keep));
        this.window = Math.max(1, Math.min(8, window));
        sites = new Site[2];
        sites[0] = new Site(0);
        sites[1] = new Site(1);
        writes = new Writes();
        link = new Link();
        stores = new Store[STORES];
        for (int h = 0; h < STORES; h++) {
            stores[h] = new Store(h, sites[h / GROUPS], new Vault(writes), this.pool);
        }
    }

    // ---- the calls that change something

    public int group(int volumes, int places) {
        if (volumes < 1 || volumes > MOST_VOLUMES || places < 1 || places > MOST_PLACES) {
            return BAD;
        }
        if (groups >= GROUPS) {
            return NONE;
        }
        int g = groups;
        stores[g].vault.open(volumes, places);
        stores[g + GROUPS].vault.open(volumes, places);
        groups++;
        return g;
    }

    public int write(int h, int volume, int place, int number) {
        Store s = storeOf(h);
        if (s == null || !s.vault.hasPlace(volume, place)) {
            return BAD;
        }
        int refusal = writeOne(s, spotOf(volume, place), number);
        return refusal == DONE ? s.vault.pending() : refusal;
    }

    public int fill(int h, int volume, int place, int n, int number) {
        Store s = storeOf(h);
        if (s == null || !s.vault.hasPlace(volume, place)) {
            return BAD;
        }
        if (n < 1 || n > MOST_PLACES || !s.vault.hasPlace(volume, place + n - 1)) {
            return BAD;
        }
        int spot = spotOf(volume, place);
        for (int i = 0; i < n; i++) {
            int refusal = writeOne(s, spot + i, number + i);
            if (refusal != DONE) {
                return i == 0 ? refusal : i;
            }
        }
        return n;
    }

    public int flush(int h) {
        Store s = storeOf(h);
        if (s == null) {
            return BAD;
        }
        if (!s.site.up || !flushed(s)) {
            return DOWN;
        }
        return s.vault.journal();
    }

    public int checkpoint(int h) {
        Store s = storeOf(h);
        if (s == null) {
            return BAD;
        }
        if (!s.site.up) {
            return DOWN;
        }
        int before = s.site.acts;
        return checkpointed(s) ? s.site.acts - before : DOWN;
    }

    public int snapshot(int h) {
        Store s = storeOf(h);
        int refusal = refusalOf(s, PRIMARY);
        if (refusal != DONE) {
            return refusal;
        }
        if (s.vault.nowIsLatest()) {
            return 0;
        }
        if (s.taken >= MOST_TAKEN) {
            return LIMIT;
        }
        return tookSnapshot(s) ? s.vault.latest() : DOWN;
    }

    public int leave(int h) {
        Store s = storeOf(h);
        int refusal = refusalOf(s, PRIMARY);
        if (refusal != DONE) {
            return refusal;
        }
        if (!s.vault.nowIsLatest()) {
            if (s.taken >= MOST_TAKEN) {
                return LIMIT;
            }
            if (!tookSnapshot(s)) {
                return DOWN;
            }
        }
        if (!s.site.act()) {
            return DOWN;
        }
        s.role = LEAVING;
        s.gift = 0;
        return s.vault.latest();
    }

    public int stay(int h) {
        Store s = storeOf(h);
        int refusal = refusalOf(s, LEAVING);
        if (refusal != DONE) {
            return refusal;
        }
        if (s.gift != 0) {
            return ROLE;
        }
        if (!s.site.act()) {
            return DOWN;
        }
        s.role = PRIMARY;
        return 0;
    }

    public int force(int h) {
        Store s = storeOf(h);
        if (s == null) {
            return BAD;
        }
        if (!s.site.up) {
            return DOWN;
        }
        if (s.role != COPY && s.role != FENCED) {
            return ROLE;
        }
        if (s.role == FENCED && !checkpointed(s)) {
            return DOWN;
        }
        if (!s.site.act()) {
            return DOWN;
        }
        if (s.role == COPY) {
            s.hold(s.vault.latest(), 0);
        } else if (s.held == 0 && s.heldToo == 0) {
            s.hold(s.acked, s.target);
        }
        s.acked = 0;
        s.target = 0;
        s.base = 0;
        s.phase = IDLE;
        s.waited = 0;
        s.returning = false;
        s.beginEpoch(nextEpoch(s.epoch, s.site.number == 0 ? 3 : 0), keep);
        return s.epoch;
    }

    public int back(int h) {
        Store s = storeOf(h);
        int refusal = refusalOf(s, FENCED);
        if (refusal != DONE) {
            return refusal;
        }
        s.returning = true;
        sendHello(s);
        return 0;
    }

    public boolean period(int n) {
        if (n < 0 || n > MOST_PERIOD) {
            return false;
        }
        every = n;
        return true;
    }

    public int tick() {
        time++;
        for (int h = 0; h < STORES; h++) {
            Store s = storeOf(h);
            if (s != null && s.site.up) {
                tickOf(s);
            }
        }
        return time;
    }

    public boolean power(int site, int n) {
        if (site < 0 || site > 1 || n < NONE || n > MOST_POWER) {
            return false;
        }
        sites[site].left = n;
        return true;
    }

    public boolean crash(int site) {
        if (site < 0 || site > 1 || !sites[site].up) {
            return false;
        }
        sites[site].fail();
        return true;
    }

    public int up(int site) {
        if (site < 0 || site > 1) {
            return BAD;
        }
        if (sites[site].up) {
            return NONE;
        }
        sites[site].up = true;
        int gone = 0;
        for (int g = 0; g < GROUPS; g++) {
            Store s = storeOf(GROUPS * site + g);
            if (s != null) {
                gone += s.wake();
            }
        }
        return gone;
    }

    public int pass(int i, int how) {
        Message m = link.at(i);
        if (m == null || how < 0 || how > 2) {
            return NONE;
        }
        if (how != 2) {
            link.drop(i);
        }
        if (how != 0) {
            receive(m);
        }
        return 1;
    }

    // ---- the calls that only tell

    public int message(int i, int what) {
        Message m = link.at(i);
        if (m == null) {
            return NONE;
        }
        switch (what) {
            case 0: return m.kind;
            case 1: return m.sender;
            case 2: return m.epoch;
            case 3: return m.a;
            case 4: return m.b;
            case 5: return m.c;
            case 6: return m.d;
            case 7: return m.itemCount();
            default: return NONE;
        }
    }

    public int item(int i, int k, int what) throws IndexOutOfBoundsException {
        Message m = link.at(i);
        if (m == null || k < 0 || k >= m.itemCount() || what < 0 || what > 2) {
            throw new IndexOutOfBoundsException("no such item");
        }
        return m.items[3 * k + what];
    }

    public int read(int h, int volume, int place) throws IndexOutOfBoundsException, IllegalStateException {
        Store s = storeOf(h);
        if (s == null || !s.vault.hasPlace(volume, place)) {
            throw new IndexOutOfBoundsException("no such place");
        }
        if (!s.site.up) {
            throw new IllegalStateException("the site is down");
        }
        return s.vault.numberAt(spotOf(volume, place));
    }

    public int old(int h, int k, int volume, int place) throws IndexOutOfBoundsException, IllegalStateException {
        Store s = storeOf(h);
        if (s == null || !s.vault.hasSnapshot(k) || !s.vault.hasPlace(volume, place)) {
            throw new IndexOutOfBoundsException("no such snapshot or place");
        }
        if (!s.site.up) {
            throw new IllegalStateException("the site is down");
        }
        return s.vault.oldNumberAt(k, spotOf(volume, place));
    }

    public int sum(int h, int volume) throws IndexOutOfBoundsException, IllegalStateException {
        Store s = storeOf(h);
        if (s == null || !s.vault.hasPlace(volume, 0)) {
            throw new IndexOutOfBoundsException("no such volume");
        }
        if (!s.site.up) {
            throw new IllegalStateException("the site is down");
        }
        int spot = spotOf(volume, 0);
        int total = 0;
        for (int place = 0; place < s.vault.places; place++) {
            total = 31 * total + s.vault.numberAt(spot + place);
        }
        return total;
    }

    public int differ(int h, int i, int j) throws IndexOutOfBoundsException, IllegalStateException {
        Store s = storeOf(h);
        if (s == null || !s.vault.hasSnapshot(i) || !s.vault.hasSnapshot(j) || i > j) {
            throw new IndexOutOfBoundsException("no such snapshots");
        }
        if (!s.site.up) {
            throw new IllegalStateException("the site is down");
        }
        return writes.placesBehind(s.vault.lines[j], s.vault.lengthOf(i));
    }

    public int state(int h, int what) {
        Store s = storeOf(h);
        if (s == null) {
            return BAD;
        }
        switch (what) {
            case 0: return s.role;
            case 1: return s.epoch;
            case 2: return writes.length[s.vault.now];
            case 3: return writes.length[s.vault.safe];
            case 4: return writes.length[s.vault.kept];
            case 5: return s.vault.count;
            case 6: return s.vault.latest();
            case 7: return s.acked;
            case 8: return s.target;
            case 9: return s.held;
            case 10: return s.heldToo;
            case 11: return s.gift;
            case 12: return s.base;
            case 13: return s.phase;
            case 14: return s.chunks;
            case 15: return s.next;
            case 16: return s.waited;
            case 17: return s.returning ? 1 : 0;
            case 18: return s.staging.chunks;
            case 19: return s.staging.items;
            case 20: return s.staging.id;
            case 21: return s.staging.refused;
            case 22: return s.gone.count;
            case 23: return s.blocks();
            case 24: return s.taken;
            default: return BAD;
        }
    }

    public int snap(int h, int k, int what) {
        Store s = storeOf(h);
        if (s == null || !s.vault.hasSnapshot(k) || what < 0 || what > 1) {
            return BAD;
        }
        return what == 0 ? s.vault.ids[k] : s.vault.lengthOf(k);
    }

    public int lost(int h, int i, int what) throws IndexOutOfBoundsException {
        Store s = storeOf(h);
        if (s == null || i < 0 || i >= s.gone.count || what < 0 || what > 2) {
            throw new IndexOutOfBoundsException("no such lost place");
        }
        return writes.told(s.gone.list[i], what);
    }

    public int total(int what) {
        switch (what) {
            case 0: return time;
            case 1: return groups;
            case 2: return writes.made;
            case 3: return link.count;
            case 4: return link.sent;
            case 5: return link.dropped;
            case 10: case 11: case 12: case 13: return totalOf(sites[0], what - 10);
            case 20: case 21: case 22: case 23: return totalOf(sites[1], what - 20);
            default: return NONE;
        }
    }

    private int totalOf(Site site, int what) {
        switch (what) {
            case 0: return site.up ? 1 : 0;
            case 1: return site.acts;
            case 2: return freeBlocks(site);
            default: return site.left;
        }
    }

    // ---- what the calls have in common

    /** null: there is no such store, or not yet its group. */
    private Store storeOf(int h) {
        return h < 0 || h >= STORES || h % GROUPS >= groups ? null : stores[h];
    }

    private static int spotOf(int volume, int place) {
        return MOST_PLACES * volume + place;
    }

    private static int refusalOf(Store s, int role) {
        if (s == null) {
            return BAD;
        }
        if (!s.site.up) {
            return DOWN;
        }
        return s.role == role ? DONE : ROLE;
    }

    private int freeBlocks(Site site) {
        int free = pool;
        for (int g = 0; g < GROUPS; g++) {
            Store s = storeOf(GROUPS * site.number + g);
            if (s != null) {
                free -= s.blocks();
            }
        }
        return free;
    }

    /** By 4 each site's gifts and forces leave a rest of their own, so that no two of them ever make the same epoch. */
    private static int nextEpoch(int epoch, int rest) {
        return epoch + 1 + Math.floorMod(rest - epoch - 1, 4);
    }

    // ---- what a store does by ACTS: false tells that power failed

    private int writeOne(Store s, int spot, int number) {
        int refusal = refusalOf(s, PRIMARY);
        if (refusal != DONE) {
            return refusal;
        }
        if (writes.made >= MOST_WRITES) {
            return LIMIT;
        }
        if (s.vault.pending() >= MOST_PENDING && !flushed(s)) {
            return DOWN;
        }
        if (freeBlocks(s.site) < 1) {
            return FULL;
        }
        s.vault.put(spot, number);
        return DONE;
    }

    private boolean flushed(Store s) {
        Vault v = s.vault;
        if (v.journal() + v.pending() > MOST_UNKEPT) {
            return checkpointed(s);
        }
        for (int left = v.pending(); left > 0; left -= SAVED_AT_ONCE) {
            if (!s.site.act()) {
                return false;
            }
            v.save(SAVED_AT_ONCE);
        }
        return true;
    }

    private boolean checkpointed(Store s) {
        Vault v = s.vault;
        if (v.now == v.kept) {
            return true;
        }
        if (!s.site.act(writes.nodesBehind(v.now, writes.length[v.kept]) + 1)) {
            return false;
        }
        v.keepNow();
        return true;
    }

    private boolean tookSnapshot(Store s) {
        if (!checkpointed(s) || !s.site.act()) {
            return false;
        }
        s.taken++;
        s.vault.shelve(EPOCH_SPAN * s.epoch + s.taken);
        s.thin(keep);
        return true;
    }

    // ---- a tick of a store

    private void tickOf(Store s) {
        if (s.role == PRIMARY && every > 0 && time % every == 0 && !s.vault.nowIsLatest() && s.taken < MOST_TAKEN
                && !tookSnapshot(s)) {
            return;
        }
        if (s.isSource()) {
            sendForward(s);
        } else if (s.role == FENCED && s.returning && s.waitedEnough()) {
            sendHello(s);
        }
    }

    private void sendForward(Store s) {
        if (s.target != 0) {
            if (s.waitedEnough()) {
                sendOffer(s);
            }
        } else if (s.vault.latest() != s.acked) {
            if (s.site.act()) {
                s.target = s.vault.latest();
                s.base = s.acked;
                sendOffer(s);
            }
        } else if (s.role == LEAVING) {
            handOver(s);
        }
    }

    private void handOver(Store s) {
        if (s.gift != 0) {
            if (s.waitedEnough()) {
                sendGive(s);
            }
        } else if (s.site.act()) {
            s.gift = nextEpoch(s.epoch, s.site.number == 0 ? 2 : 1);
            sendGive(s);
        }
    }

    // ---- sending

    private void send(Store s, int kind, int b) {
        link.add(new Message(s, kind, 0, b));
    }

    private void sendOffer(Store s) {
        s.phase = OFFERED;
        s.waited = 0;
        int line = s.vault.lineOf(s.target);
        writes.collect(s.plan, line, s.vault.lengthOfId(s.base));
        Message m = new Message(s, OFFER, s.base, s.target);
        m.c = s.plan.count;
        m.d = writes.length[line];
        m.line = line;
        link.add(m);
    }

    private void sendGive(Store s) {
        s.waited = 0;
        Message m = new Message(s, GIVE, 0, s.vault.latest());
        m.c = s.gift;
        link.add(m);
    }

    private void sendHello(Store s) {
        s.waited = 0;
        Message m = new Message(s, HELLO, 0, 0);
        int n = s.vault.count;
        m.items = new int[3 * n];
        for (int k = 0; k < n; k++) {
            m.items[3 * k] = s.vault.ids[n - 1 - k];
        }
        link.add(m);
    }

    /** ACCEPT or ACK: how far the staging has come. */
    private void sendProgress(Store s, int kind) {
        Message m = new Message(s, kind, s.staging.base, s.staging.id);
        m.c = s.staging.chunks;
        link.add(m);
    }

    private void sendData(Store s, int chunk) {
        Message m = new Message(s, DATA, s.base, s.target);
        m.c = chunk;
        int first = CHUNK * chunk;
        int n = Math.max(0, Math.min(CHUNK, s.plan.count - first));
        m.items = new int[3 * n];
        for (int k = 0; k < n; k++) {
            int w = s.plan.list[first + k];
            for (int what = 0; what < 3; what++) {
                m.items[3 * k + what] = writes.told(w, what);
            }
        }
        link.add(m);
    }

    private void sendOn(Store s) {
        writes.collect(s.plan, s.vault.lineOf(s.target), s.vault.lengthOfId(s.base));
        int end = Math.min(s.chunks + window, (s.plan.count + CHUNK - 1) / CHUNK);
        for (int chunk = s.next; chunk < end; chunk++) {
            sendData(s, chunk);
            s.next++;
        }
    }

    // ---- receiving

    private void receive(Message m) {
        Store s = storeOf((m.sender + GROUPS) % STORES);
        if (s == null || !s.site.up) {
            return;
        }
        if (m.epoch < s.epoch) {
            if (m.kind == OFFER || m.kind == DATA || m.kind == GIVE) {
                send(s, FENCE, 0);
            }
            return;
        }
        if (m.epoch > s.epoch) {
            if (!s.site.act()) {
                return;
            }
            s.learnEpoch(m.epoch);
        }
        switch (m.kind) {
            case OFFER: onOffer(s, m); break;
            case ACCEPT: onAccept(s, m); break;
            case DATA: onData(s, m); break;
            case ACK: onAck(s, m); break;
            case HAVE: onHave(s, m); break;
            case LACK: onLack(s, m); break;
            case GIVE: onGive(s, m); break;
            case HELLO: onHello(s, m); break;
            case COMMON: onCommon(s, m); break;
            default: break;
        }
    }

    private void onOffer(Store s, Message m) {
        int latest = s.vault.latest();
        if (s.role != COPY || m.b < latest) {
            return;
        }
        if (m.b == latest) {
            send(s, HAVE, m.b);
            return;
        }
        if (m.a != 0 && m.a != latest) {
            send(s, LACK, latest);
            return;
        }
        if (!s.staging.isOf(m.a, m.b)) {
            if (!s.site.act()) {
                return;
            }
            s.staging.begin(m);
        }
        if (s.staging.hasAll()) {
            commit(s);
        } else {
            sendProgress(s, ACCEPT);
        }
    }

    private void onData(Store s, Message m) {
        Staging g = s.staging;
        if (s.role != COPY || !g.isOf(m.a, m.b)) {
            return;
        }
        if (m.c < g.chunks || g.hasAll()) {
            sendProgress(s, ACK);
            return;
        }
        if (m.c > g.chunks) {
            return;
        }
        if (freeBlocks(s.site) < m.itemCount()) {
            g.refused++;
            return;
        }
        if (!s.site.act()) {
            return;
        }
        g.add(m.itemCount());
        if (g.hasAll()) {
            commit(s);
        } else {
            sendProgress(s, ACK);
        }
    }

    private void commit(Store s) {
        Staging g = s.staging;
        int id = g.id;
        // What is staged lies behind LATEST or behind nothing, and its places are just those of that stretch.
        int from = g.base == 0 ? 0 : s.vault.latestLength();
        if (!s.site.act(writes.nodesBehind(g.line, from) + 1)) {
            return;
        }
        s.vault.adopt(id, g.line, g.base == 0);
        g.clear();
        s.thin(keep);
        send(s, HAVE, id);
    }

    private void onGive(Store s, Message m) {
        if (s.role != COPY || m.b != s.vault.latest() || !s.site.act()) {
            return;
        }
        s.acked = m.b;
        s.base = m.b;
        s.target = 0;
        s.hold(0, 0);
        s.beginEpoch(m.c, keep);
        send(s, TOOK, 0);
    }

    private void onCommon(Store s, Message m) {
        int k = s.vault.find(m.b);
        if (s.role != FENCED || !s.returning || (m.b != 0 && k < 0) || !s.site.act()) {
            return;
        }
        writes.collect(s.gone, s.vault.now, s.vault.lengthOfId(m.b));
        s.vault.returnTo(k);
        s.role = COPY;
        s.forgetOther();
        s.returning = false;
        s.thin(keep);
    }

    private void onAccept(Store s, Message m) {
        if (!s.sends(m, OFFERED)) {
            return;
        }
        s.phase = SENDING;
        s.chunks = m.c;
        s.next = m.c;
        s.waited = 0;
        sendOn(s);
    }

    private void onAck(Store s, Message m) {
        // One that tells nothing new finds that all that the window lets go has gone.
        if (!s.sends(m, SENDING) || m.c <= s.chunks) {
            return;
        }
        s.chunks = m.c;
        s.next = Math.max(s.next, m.c);
        s.waited = 0;
        sendOn(s);
    }

    private void onHave(Store s, Message m) {
        if (!s.isSource() || s.target == 0 || s.target != m.b || !s.site.act()) {
            return;
        }
        s.acked = m.b;
        s.base = m.b;
        s.target = 0;
        s.phase = IDLE;
        s.waited = 0;
        s.thin(keep);
    }

    private void onLack(Store s, Message m) {
        if (!s.isSource() || s.target == 0 || s.phase == IDLE) {
            return;
        }
        s.base = m.b < s.target && s.vault.find(m.b) >= 0 ? m.b : 0;
        sendOffer(s);
    }

    private void onHello(Store s, Message m) {
        if (s.role != PRIMARY || s.acked > EPOCH_SPAN * s.epoch) {
            return;
        }
        int common = 0;
        for (int k = 0; k < m.itemCount() && common == 0; k++) {
            if (s.vault.find(m.items[3 * k]) >= 0) {
                common = m.items[3 * k];
            }
        }
        if (!s.site.act()) {
            return;
        }
        s.acked = common;
        s.hold(0, 0);
        if (s.target == common) {
            s.target = 0;
        }
        s.base = common;
        s.phase = IDLE;
        s.waited = 0;
        s.thin(keep);
        send(s, COMMON, common);
    }

    /** One of the two sites: whether it is up, and its power. */
    private static final class Site {
        final int number;
        boolean up;
        int acts;
        int left;

        Site(int number) {
            this.number = number;
            up = true;
            left = NONE;
        }

        boolean act() {
            if (left == 0) {
                fail();
                return false;
            }
            if (left > 0) {
                left--;
            }
            acts++;
            return true;
        }

        boolean act(int times) {
            for (int i = 0; i < times; i++) {
                if (!act()) {
                    return false;
                }
            }
            return true;
        }

        void fail() {
            up = false;
            left = NONE;
        }
    }

    /** All writes that were ever made; number 0 is none, the end of the empty line. */
    private static final class Writes {
        int made;
        final int[] spot;
        final int[] number;
        // The line that a write was put behind.
        final int[] before;
        // The write that held its place in that line.
        final int[] earlier;
        // The length of the line that ends with it.
        final int[] length;
        private final Marks seen;

        Writes() {
            int room = MOST_WRITES + 1;
            spot = new int[room];
            number = new int[room];
            before = new int[room];
            earlier = new int[room];
            length = new int[room];
            seen = new Marks(MOST_VOLUMES * MOST_PLACES);
        }

        /** The line that is one write longer; the same one if there may be no more, which callers look at first. */
        int extend(int line, int atSpot, int aNumber, int earlierThere) {
            if (made >= MOST_WRITES) {
                return line;
            }
            made++;
            spot[made] = atSpot;
            number[made] = aNumber;
            before[made] = line;
            earlier[made] = earlierThere;
            length[made] = length[line] + 1;
            return made;
        }

        /** What a write tells: 0 its volume, 1 its place, 2 its number. */
        int told(int w, int what) {
            if (what == 0) {
                return spot[w] / MOST_PLACES;
            }
            return what == 1 ? spot[w] % MOST_PLACES : number[w];
        }

        /** How many places are WRITTEN in a line behind its first ones: each is counted at its first write there. */
        int placesBehind(int line, int from) {
            int found = 0;
            int w = line;
            for (int left = length[line] - from; left > 0; left--) {
                if (length[earlier[w]] <= from) {
                    found++;
                }
                w = before[w];
            }
            return found;
        }

        /** How many places are WRITTEN both behind from and in the stretch from floor to there. */
        int placesInBoth(int line, int from, int floor) {
            int found = 0;
            int w = line;
            for (int left = length[line] - from; left > 0; left--) {
                int e = length[earlier[w]];
                if (e > floor && e <= from) {
                    found++;
                }
                w = before[w];
            }
            return found;
        }

        /** The NODES of the writes of a line behind its first ones. */
        int nodesBehind(int line, int from) {
            seen.begin();
            int found = 0;
            int w = line;
            for (int left = length[line] - from; left > 0; left--) {
                int leaf = spot[w] / 16;
                int branch = MOST_VOLUMES * MOST_PLACES / 16 + spot[w] / 256;
                int root = MOST_VOLUMES * MOST_PLACES / 8 + spot[w] / MOST_PLACES;
                found += seen.mark(leaf) + seen.mark(branch) + seen.mark(root);
                w = before[w];
            }
            return found;
        }

        /** Into a row: the last write of each place that is WRITTEN in a line behind its first ones, by places. */
        void collect(Row row, int line, int from) {
            if (row.line == line && row.from == from) {
                return;
            }
            row.begin(line, from);
            seen.begin();
            int w = line;
            for (int left = length[line] - from; left > 0; left--) {
                if (seen.mark(spot[w]) == 1) {
                    row.add(w);
                }
                w = before[w];
            }
            row.sort(spot);
        }
    }

    /** Which of some numbers have come in this round; a new round needs no clearing. */
    private static final class Marks {
        private final int[] rounds;
        private int round;

        Marks(int size) {
            rounds = new int[size];
        }

        void begin() {
            round++;
        }

        /** 1 if it comes for the first time in this round, else 0. */
        int mark(int i) {
            if (i < 0 || i >= rounds.length || rounds[i] == round) {
                return 0;
            }
            rounds[i] = round;
            return 1;
        }
    }

    /** A row of writes that is used again, and the stretch of a line that it was collected of. */
    private static final class Row {
        int line;
        int from;
        final int[] list;
        int count;

        Row(int room) {
            list = new int[room];
        }

        void begin(int aLine, int aFrom) {
            line = aLine;
            from = aFrom;
            count = 0;
        }

        void add(int w) {
            if (count < list.length) {
                list[count] = w;
                count++;
            }
        }

        /** Heap sort: it needs no room of its own, and no order of the writes makes it slow. */
        void sort(int[] key) {
            for (int i = count / 2 - 1; i >= 0; i--) {
                sink(key, i, count);
            }
            for (int end = count - 1; end > 0; end--) {
                int top = list[0];
                list[0] = list[end];
                list[end] = top;
                sink(key, 0, end);
            }
        }

        private void sink(int[] key, int start, int end) {
            int w = list[start];
            int hole = start;
            for (int child = 2 * hole + 1; child < end; child = 2 * hole + 1) {
                if (child + 1 < end && key[list[child + 1]] > key[list[child]]) {
                    child++;
                }
                if (key[list[child]] <= key[w]) {
                    break;
                }
                list[hole] = list[child];
                hole = child;
            }
            list[hole] = w;
        }
    }

    /** The lines of a store: NOW, SAFE, KEPT and the SNAPSHOTS, and the blocks that they need. */
    private static final class Vault {
        final Writes writes;
        int volumes;
        int places;
        // The last write of each spot in NOW.
        final int[] newest;
        int now;
        int safe;
        int kept;
        final int[] ids;
        final int[] lines;
        int count;
        // Each stretch between SNAPSHOTS, KEPT and NOW needs as many as places are WRITTEN in it.
        int blocks;

        Vault(Writes writes) {
            this.writes = writes;
            newest = new int[MOST_VOLUMES * MOST_PLACES];
            ids = new int[SHELF_ROOM];
            lines = new int[SHELF_ROOM];
        }

        /** Its group is there: till then it has no place. */
        void open(int someVolumes, int somePlaces) {
            volumes = someVolumes;
            places = somePlaces;
        }

        boolean hasPlace(int volume, int place) {
            return volume >= 0 && volume < volumes && place >= 0 && place < places;
        }

        boolean hasSnapshot(int k) {
            return k >= 0 && k < count;
        }

        int pending() {
            return writes.length[now] - writes.length[safe];
        }

        int journal() {
            return writes.length[safe] - writes.length[kept];
        }

        int latest() {
            return count == 0 ? 0 : ids[count - 1];
        }

        private int latestLine() {
            return count == 0 ? 0 : lines[count - 1];
        }

        int latestLength() {
            return writes.length[latestLine()];
        }

        boolean nowIsLatest() {
            return now == latestLine();
        }

        int lengthOf(int k) {
            return writes.length[lines[k]];
        }

        int find(int id) {
            for (int k = 0; k < count; k++) {
                if (ids[k] == id) {
                    return k;
                }
            }
            return NONE;
        }

        /** The line of a SNAPSHOT, or the empty one of ID 0. */
        int lineOf(int id) {
            int k = find(id);
            return k < 0 ? 0 : lines[k];
        }

        int lengthOfId(int id) {
            return writes.length[lineOf(id)];
        }

        int numberAt(int spot) {
            return writes.number[newest[spot]];
        }

        int oldNumberAt(int k, int spot) {
            int w = newest[spot];
            int most = lengthOf(k);
            for (int guard = 0; guard < MOST_WRITES && writes.length[w] > most; guard++) {
                w = writes.earlier[w];
            }
            return writes.number[w];
        }

        void put(int spot, int number) {
            int earlier = newest[spot];
            if (writes.length[earlier] <= writes.length[kept]) {
                blocks++;
            }
            now = writes.extend(now, spot, number, earlier);
            newest[spot] = now;
        }

        /** So many PENDING writes, or all if they are fewer, come to be SAFE. */
        void save(int n) {
            int line = now;
            for (int left = pending() - n; left > 0; left--) {
                line = writes.before[line];
            }
            safe = line;
        }

        void keepNow() {
            blocks -= writes.placesInBoth(now, writes.length[kept], latestLength());
            safe = now;
            kept = now;
        }

        /** NOW, that is KEPT already, is a SNAPSHOT. */
        void shelve(int id) {
            if (count < SHELF_ROOM) {
                ids[count] = id;
                lines[count] = now;
                count++;
            }
        }

        void drop(int k) {
            int above = k + 1 < count ? lines[k + 1] : kept;
            blocks -= writes.placesInBoth(above, lengthOf(k), k == 0 ? 0 : lengthOf(k - 1));
            for (int i = k + 1; i < count; i++) {
                ids[i - 1] = ids[i];
                lines[i - 1] = lines[i];
            }
            count--;
        }

        /** NOW is SAFE: how many PENDING writes are lost. */
        int losePending() {
            int gone = pending();
            int from = writes.length[kept];
            blocks -= writes.placesBehind(now, from) - writes.placesBehind(safe, from);
            rewind(safe);
            return gone;
        }

        /** A line that begins with LATEST's (or, as a whole, with nothing that is here) is a SNAPSHOT and all else. */
        void adopt(int id, int line, boolean whole) {
            if (whole) {
                count = 0;
                blocks = 0;
            }
            rewind(latestLine());
            blocks += writes.placesBehind(line, writes.length[now]);
            advance(line);
            safe = line;
            kept = line;
            shelve(id);
        }

        /** The k-th SNAPSHOT (NONE: the empty line) is all that there is, but for those before it. */
        void returnTo(int k) {
            count = k + 1;
            rewind(latestLine());
            safe = now;
            kept = now;
            blocks = 0;
            int from = 0;
            for (int i = 0; i < count; i++) {
                blocks += writes.placesBehind(lines[i], from);
                from = lengthOf(i);
            }
        }

        /** NOW is a line that it begins with. */
        private void rewind(int line) {
            for (int left = writes.length[now] - writes.length[line]; left > 0; left--) {
                newest[writes.spot[now]] = writes.earlier[now];
                now = writes.before[now];
            }
        }

        /** NOW is a line that begins with it. */
        private void advance(int line) {
            int from = writes.length[now];
            int w = line;
            for (int left = writes.length[line] - from; left > 0; left--) {
                int spot = writes.spot[w];
                // Told from the end: the first one that comes of a spot is its last one.
                if (writes.length[newest[spot]] <= from) {
                    newest[spot] = w;
                }
                w = writes.before[w];
            }
            now = line;
        }
    }

    /** What a COPY has got of a line that is not whole yet, and how often it had no room. */
    private static final class Staging {
        int base;
        int id;
        int line;
        int wanted;
        int chunks;
        int items;
        int refused;

        boolean isOf(int aBase, int anId) {
            return id != 0 && base == aBase && id == anId;
        }

        boolean hasAll() {
            return items >= wanted;
        }

        void begin(Message offer) {
            clear();
            base = offer.a;
            id = offer.b;
            wanted = offer.c;
            line = offer.line;
        }

        void add(int n) {
            chunks++;
            items += n;
        }

        void clear() {
            base = 0;
            id = 0;
            line = 0;
            wanted = 0;
            chunks = 0;
            items = 0;
        }
    }

    /** A site's part of a group: its lines, its role, and how far it is with its other. */
    private static final class Store {
        final int number;
        final Site site;
        final Vault vault;
        final Staging staging;
        // What is sent, and what the latest way back lost: each of these places needs a block, so the pool holds them.
        final Row plan;
        final Row gone;
        int role;
        int epoch;
        int taken;
        int acked;
        int target;
        int held;
        int heldToo;
        int gift;
        int base;
        int phase;
        int chunks;
        int next;
        int waited;
        boolean returning;

        Store(int number, Site site, Vault vault, int pool) {
            this.number = number;
            this.site = site;
            this.vault = vault;
            staging = new Staging();
            plan = new Row(pool);
            gone = new Row(pool);
            role = site.number == 0 ? PRIMARY : COPY;
            epoch = 1;
        }

        int blocks() {
            return vault.blocks + staging.items;
        }

        /** Whether it is one that sends its lines to its other. */
        boolean isSource() {
            return role == PRIMARY || role == LEAVING;
        }

        /** Whether a message is about what it sends, in that PHASE. */
        boolean sends(Message m, int aPhase) {
            return isSource() && phase == aPhase && base == m.a && target == m.b;
        }

        boolean waitedEnough() {
            waited++;
            return waited >= PATIENCE;
        }

        void hold(int id, int idToo) {
            held = id;
            heldToo = idToo;
        }

        void forgetOther() {
            acked = 0;
            target = 0;
            base = 0;
            hold(0, 0);
        }

        private boolean isPinned(int id) {
            return id == vault.latest() || id == acked || id == target || id == base || id == held || id == heldToo;
        }

        void thin(int keep) {
            int k = 0;
            for (int unseen = vault.count; unseen > 0 && vault.count > keep; unseen--) {
                if (isPinned(vault.ids[k])) {
                    k++;
                } else {
                    vault.drop(k);
                }
            }
        }

        /** It is PRIMARY in a new EPOCH, and NOW is the first SNAPSHOT of it. */
        void beginEpoch(int anEpoch, int keep) {
            role = PRIMARY;
            epoch = anEpoch;
            taken = 1;
            staging.clear();
            vault.shelve(EPOCH_SPAN * epoch + taken);
            thin(keep);
        }

        /** A message told of a later EPOCH. */
        void learnEpoch(int anEpoch) {
            if (role == LEAVING && gift == anEpoch) {
                role = COPY;
                forgetOther();
            } else if (isSource()) {
                role = FENCED;
            }
            gift = 0;
            epoch = anEpoch;
            taken = 0;
            phase = IDLE;
            staging.clear();
        }

        /** Its site comes UP: how many PENDING writes it lost. */
        int wake() {
            base = acked;
            phase = IDLE;
            chunks = 0;
            next = 0;
            waited = 0;
            returning = false;
            return vault.losePending();
        }
    }

    private static final class Message {
        final int kind;
        final int sender;
        final int epoch;
        final int a;
        final int b;
        int c;
        int d;
        // An OFFER's TARGET: what is sent makes just this line of it in the end.
        int line;
        // Three numbers an item; null without any.
        int[] items;

        Message(Store s, int kind, int a, int b) {
            this.kind = kind;
            this.sender = s.number;
            this.epoch = s.epoch;
            this.a = a;
            this.b = b;
        }

        int itemCount() {
            return items == null ? 0 : items.length / 3;
        }
    }

    /** The link between the sites. */
    private static final class Link {
        private final Message[] flight;
        int count;
        int sent;
        int dropped;

        Link() {
            flight = new Message[MOST_IN_FLIGHT];
        }

        Message at(int i) {
            return i < 0 || i >= count ? null : flight[i];
        }

        void add(Message m) {
            sent++;
            if (count >= MOST_IN_FLIGHT) {
                dropped++;
                return;
            }
            flight[count] = m;
            count++;
        }

        void drop(int i) {
            if (i < 0 || i >= count) {
                return;
            }
            for (int k = i + 1; k < count; k++) {
                flight[k - 1] = flight[k];
            }
            count--;
            flight[count] = null;
        }
    }
}
