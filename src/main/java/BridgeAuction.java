/**
 * A simulator of bridges that keep a spanning tree by exchanging priority vectors, and whose link
 * costs follow auctions in which tenants buy bandwidth with credits.
 *
 * <p>Every row of numbers is made when the object is made and used again by every call, so that no
 * call makes an object unless it throws.
 */
public final class BridgeAuction {
    public static final int NONE = -1;
    public static final int ROOT = 0, DESIGNATED = 1, ALTERNATE = 2;
    public static final int BLOCKING = 0, LISTENING = 1, LEARNING = 2, FORWARDING = 3;

    private static final int LEAST_BRIDGES = 2;
    private static final int MOST_BRIDGES = 8;
    private static final int FIRST_BRIDGES = 4;
    private static final int MOST_LINKS = 16;
    private static final int MOST_PORTS = 2 * MOST_LINKS;
    private static final int HOSTS = 8;
    private static final int TENANTS = 4;
    private static final int MOST_BID = 1000;
    private static final int MOST_GRANT = 10000;
    private static final int MOST_CREDITS = 1000000;
    private static final int MOST_TICKS = 200;
    private static final int MOST_BYTE = 127;

    /** Stands in a table where a link would stand, for a host at the bridge itself. */
    private static final int ITSELF = 100;

    /** What a call would be refused for; a script asks for it too, and stops instead of throwing. */
    private static final int FINE = 0, NO_SUCH_NUMBER = 1, OUT_OF_RANGE = 2, WRONG_STATE = 3;

    private static final int BRIDGE_VALUES = 6, LINK_VALUES = 9, PORT_VALUES = 3;
    private static final int TENANT_VALUES = 4, COUNTS = 7;

    private final Network now;
    private final UndoStack saved;
    private final Script script;
    private final Vectors vectors;
    private final Ports ports;
    private final Frames frames;
    private final Paths paths;

    public BridgeAuction() {
        now = new Network();
        now.beginAnew(FIRST_BRIDGES);
        saved = new UndoStack();
        script = new Script();
        vectors = new Vectors();
        ports = new Ports();
        frames = new Frames();
        paths = new Paths();
    }

    // ---- set-up

    public int setBridges(int bridges) throws IllegalArgumentException {
        if (isOutside(bridges, LEAST_BRIDGES, MOST_BRIDGES)) {
            throw new IllegalArgumentException("bridges is out of range");
        }
        saved.save(now);
        int previous = now.size;
        now.beginAnew(bridges);
        return previous;
    }

    public int setTimes(int delay, int interval, int hysteresis) throws IllegalArgumentException {
        if (isOutside(delay, 1, 20) || isOutside(interval, 5, 100) || isOutside(hysteresis, 0, 100)) {
            throw new IllegalArgumentException("a time is out of range");
        }
        saved.save(now);
        int previous = now.interval;
        now.delay = delay;
        now.interval = interval;
        now.hysteresis = hysteresis;
        return previous;
    }

    public int setPriority(int bridge, int priority)
            throws IndexOutOfBoundsException, IllegalArgumentException {
        throwFor(now.faultOfPriority(bridge, priority));
        saved.save(now);
        return now.bridges.changePriority(bridge, priority);
    }

    public int addLink(int a, int b, int cost)
            throws IndexOutOfBoundsException, IllegalArgumentException, IllegalStateException {
        throwFor(now.faultOfNewLink(a, b, cost));
        saved.save(now);
        return now.links.append(a, b, cost);
    }

    public int fail(int link) throws IndexOutOfBoundsException, IllegalStateException {
        throwFor(now.faultOfSwitch(link, true));
        saved.save(now);
        return now.takeDown(link);
    }

    public int fix(int link) throws IndexOutOfBoundsException, IllegalStateException {
        throwFor(now.faultOfSwitch(link, false));
        saved.save(now);
        return now.links.bringUp(link);
    }

    public int moveHost(int host, int bridge) throws IndexOutOfBoundsException {
        throwFor(now.faultOfMove(host, bridge));
        saved.save(now);
        return now.bridges.placeHost(host, bridge);
    }

    public int bid(int tenant, int link, int credits)
            throws IndexOutOfBoundsException, IllegalArgumentException {
        throwFor(now.faultOfBid(tenant, link, credits));
        saved.save(now);
        return now.tenants.changeBid(tenant, link, credits);
    }

    public int grant(int tenant, int credits)
            throws IndexOutOfBoundsException, IllegalArgumentException, IllegalStateException {
        if (isOutside(tenant, 0, TENANTS - 1)) {
            throw new IndexOutOfBoundsException("no such tenant");
        }
        if (isOutside(credits, 0, MOST_GRANT)) {
            throw new IllegalArgumentException("credits is out of range");
        }
        if (now.tenants.credits[tenant] + credits > MOST_CREDITS) {
            throw new IllegalStateException("too many credits");
        }
        saved.save(now);
        now.tenants.credits[tenant] += credits;
        return now.tenants.credits[tenant];
    }

    // ---- time and frames

    public int tick(int ticks) throws IllegalArgumentException {
        throwFor(faultOfTicks(ticks));
        saved.save(now);
        passTicks(ticks);
        return now.clock;
    }

    public int time() {
        return now.clock;
    }

    public int send(int from, int to) throws IndexOutOfBoundsException, IllegalArgumentException {
        if (isOutside(from, 0, HOSTS - 1) || isOutside(to, 0, HOSTS - 1)) {
            throw new IndexOutOfBoundsException("no such host");
        }
        if (from == to) {
            throw new IllegalArgumentException("from and to are equal");
        }
        saved.save(now);
        return frames.carry(now, from, to);
    }

    // ---- values

    public int bridge(int bridge, int what)
            throws IndexOutOfBoundsException, IllegalArgumentException {
        if (isOutside(bridge, 0, now.size - 1)) {
            throw new IndexOutOfBoundsException("no such bridge");
        }
        if (isOutside(what, 0, BRIDGE_VALUES - 1)) {
            throw new IllegalArgumentException("what is out of range");
        }
        return now.bridges.valueOf(bridge, what);
    }

    public int links() {
        return now.links.total;
    }

    public int link(int link, int what)
            throws IndexOutOfBoundsException, IllegalArgumentException {
        if (!now.links.has(link)) {
            throw new IndexOutOfBoundsException("no such link");
        }
        if (isOutside(what, 0, LINK_VALUES - 1)) {
            throw new IllegalArgumentException("what is out of range");
        }
        return now.links.valueOf(link, what);
    }

    public int port(int link, boolean higher, int what)
            throws IndexOutOfBoundsException, IllegalArgumentException {
        if (!now.links.has(link)) {
            throw new IndexOutOfBoundsException("no such link");
        }
        if (isOutside(what, 0, PORT_VALUES - 1)) {
            throw new IllegalArgumentException("what is out of range");
        }
        int port = higher ? 2 * link + 1 : 2 * link;
        if (what == 0) {
            return now.links.role[port];
        }
        return what == 1 ? now.links.state[port] : now.links.timer[port];
    }

    public int entry(int bridge, int host) throws IndexOutOfBoundsException {
        throwFor(now.faultOfMove(host, bridge));
        return now.bridges.validEntry(bridge, host, now.clock);
    }

    public int tenant(int tenant, int what)
            throws IndexOutOfBoundsException, IllegalArgumentException {
        if (isOutside(tenant, 0, TENANTS - 1)) {
            throw new IndexOutOfBoundsException("no such tenant");
        }
        if (isOutside(what, 0, TENANT_VALUES - 1)) {
            throw new IllegalArgumentException("what is out of range");
        }
        switch (what) {
            case 0:
                return now.tenants.credits[tenant];
            case 1:
                return now.links.countWonBy(tenant);
            case 2:
                return now.tenants.paid[tenant];
            default:
                return now.tenants.refunded[tenant];
        }
    }

    public int bidOf(int tenant, int link) throws IndexOutOfBoundsException {
        throwFor(now.faultOfBid(tenant, link, 0));
        return now.tenants.bids[tenant * MOST_LINKS + link];
    }

    public int count(int what) throws IllegalArgumentException {
        if (isOutside(what, 0, COUNTS - 1)) {
            throw new IllegalArgumentException("what is out of range");
        }
        switch (what) {
            case 0:
                return now.auctions;
            case 1:
                return now.changes;
            case 2:
                return now.sent;
            case 3:
                return now.delivered;
            case 4:
                return now.used;
            case 5:
                return now.links.countCarrying();
            default:
                paths.findGroups(now);
                return paths.countPairs(now.size);
        }
    }

    public boolean isForest() {
        return paths.findGroups(now);
    }

    // ---- scripts, undo and checksum

    public int type(int value) throws IllegalArgumentException, IllegalStateException {
        if (isOutside(value, 0, MOST_BYTE)) {
            throw new IllegalArgumentException("value is out of range");
        }
        if (script.isFull()) {
            throw new IllegalStateException("the script is full");
        }
        return script.append(value);
    }

    public int clearScript() {
        int previous = script.length;
        script.length = 0;
        return previous;
    }

    public int run() {
        int fault = script.findFault();
        if (fault != NONE) {
            return -10 - fault;
        }
        saved.save(now);
        script.rewind();
        int done = 0;
        // A command has at least six bytes, so the length is far above the number of commands.
        for (int i = 0; i < script.length; i++) {
            if (!script.readCommand() || !carryOut()) {
                return done;
            }
            done++;
        }
        return done;
    }

    public int undo() throws IllegalStateException {
        if (saved.size == 0) {
            throw new IllegalStateException("the undo stack is empty");
        }
        saved.restore(now);
        return saved.size;
    }

    public long digest() {
        long h = 18498;
        h = mix(h, saved.size);
        h = mix(h, script.length);
        h = mix(h, now.size);
        h = mix(h, now.clock);
        h = mix(h, now.delay);
        h = mix(h, now.interval);
        h = mix(h, now.hysteresis);
        h = mixBridges(h);
        h = mixLinks(h);
        for (int t = 0; t < TENANTS; t++) {
            for (int what = 0; what < TENANT_VALUES; what++) {
                h = mix(h, tenant(t, what));
            }
        }
        for (int what = 0; what < COUNTS; what++) {
            h = mix(h, count(what));
        }
        return mix(h, isForest() ? 1 : 0);
    }

    private long mixBridges(long start) {
        long h = start;
        for (int b = 0; b < now.size; b++) {
            for (int what = 0; what < BRIDGE_VALUES; what++) {
                h = mix(h, bridge(b, what));
            }
            for (int host = 0; host < HOSTS; host++) {
                h = mix(h, entry(b, host));
            }
        }
        for (int host = 0; host < HOSTS; host++) {
            h = mix(h, now.bridges.hostAt[host]);
        }
        return h;
    }

    private long mixLinks(long start) {
        long h = mix(start, now.links.total);
        for (int l = 0; l < now.links.total; l++) {
            for (int what = 0; what < LINK_VALUES; what++) {
                h = mix(h, link(l, what));
            }
            for (int what = 0; what < PORT_VALUES; what++) {
                h = mix(h, port(l, false, what));
            }
            for (int what = 0; what < PORT_VALUES; what++) {
                h = mix(h, port(l, true, what));
            }
            for (int t = 0; t < TENANTS; t++) {
                h = mix(h, bidOf(t, l));
            }
        }
        return h;
    }

    private static long mix(long h, long value) {
        return 31 * h + value;
    }

    private static boolean isOutside(int value, int least, int most) {
        return value < least || value > most;
    }

    private static int faultOfTicks(int ticks) {
        return isOutside(ticks, 1, MOST_TICKS) ? OUT_OF_RANGE : FINE;
    }

    private static void throwFor(int fault) {
        if (fault == NO_SUCH_NUMBER) {
            throw new IndexOutOfBoundsException("no such number");
        }
        if (fault == OUT_OF_RANGE) {
            throw new IllegalArgumentException("an argument is out of range");
        }
        if (fault == WRONG_STATE) {
            throw new IllegalStateException("not in this state");
        }
    }

    private void passTicks(int ticks) {
        for (int i = 0; i < ticks; i++) {
            now.clock++;
            if (now.isAuctionDue()) {
                Auction.hold(now);
            }
            vectors.renew(now);
            if (ports.renew(now)) {
                paths.findGroups(now);
                ports.flushTables(now, paths);
            }
        }
    }

    /** Carries out the command that the script read last; false if its call would throw. */
    private boolean carryOut() {
        int first = script.numbers[0];
        int second = script.numbers[1];
        int third = script.numbers[2];
        if (faultOfCommand(first, second, third) != FINE) {
            return false;
        }
        switch (script.word) {
            case Script.LINK:
                now.links.append(first, second, third);
                break;
            case Script.BID:
                now.tenants.changeBid(first, second, third);
                break;
            case Script.FAIL:
                now.takeDown(first);
                break;
            case Script.FIX:
                now.links.bringUp(first);
                break;
            case Script.PRIO:
                now.bridges.changePriority(first, second);
                break;
            case Script.HOST:
                now.bridges.placeHost(first, second);
                break;
            default:
                passTicks(first);
                break;
        }
        return true;
    }

    private int faultOfCommand(int first, int second, int third) {
        switch (script.word) {
            case Script.LINK:
                return now.faultOfNewLink(first, second, third);
            case Script.BID:
                return now.faultOfBid(first, second, third);
            case Script.FAIL:
                return now.faultOfSwitch(first, true);
            case Script.FIX:
                return now.faultOfSwitch(first, false);
            case Script.PRIO:
                return now.faultOfPriority(first, second);
            case Script.HOST:
                return now.faultOfMove(first, second);
            default:
                return faultOfTicks(first);
        }
    }

    /** All that undo brings back: everything but the script. */
    private static final class Network {
        int size;
        int clock;
        int delay = 3;
        int interval = 10;
        int hysteresis = 5;
        int auctions;
        int changes;
        int sent;
        int delivered;
        int used;
        final BridgeRows bridges = new BridgeRows();
        final LinkRows links = new LinkRows();
        final TenantRows tenants = new TenantRows();

        Network() {
        }

        /** Leaves delay, interval and hysteresis as they are. */
        void beginAnew(int newSize) {
            size = newSize;
            clock = 0;
            auctions = 0;
            changes = 0;
            sent = 0;
            delivered = 0;
            used = 0;
            bridges.beginAnew(newSize);
            links.total = 0;
            tenants.beginAnew();
        }

        void copyFrom(Network other) {
            size = other.size;
            clock = other.clock;
            delay = other.delay;
            interval = other.interval;
            hysteresis = other.hysteresis;
            auctions = other.auctions;
            changes = other.changes;
            sent = other.sent;
            delivered = other.delivered;
            used = other.used;
            bridges.copyFrom(other.bridges);
            links.copyFrom(other.links);
            tenants.copyFrom(other.tenants);
        }

        int faultOfPriority(int bridge, int priority) {
            if (isOutside(bridge, 0, size - 1)) {
                return NO_SUCH_NUMBER;
            }
            return isOutside(priority, 0, 9) ? OUT_OF_RANGE : FINE;
        }

        int faultOfNewLink(int a, int b, int cost) {
            if (isOutside(a, 0, size - 1) || isOutside(b, 0, size - 1)) {
                return NO_SUCH_NUMBER;
            }
            if (a == b || isOutside(cost, 1, 100)) {
                return OUT_OF_RANGE;
            }
            return links.total >= MOST_LINKS ? WRONG_STATE : FINE;
        }

        /** A link that fails must be up before, and one that is fixed must be down. */
        int faultOfSwitch(int link, boolean upBefore) {
            if (!links.has(link)) {
                return NO_SUCH_NUMBER;
            }
            return links.up[link] == upBefore ? FINE : WRONG_STATE;
        }

        int faultOfMove(int host, int bridge) {
            boolean known = !isOutside(host, 0, HOSTS - 1) && !isOutside(bridge, 0, size - 1);
            return known ? FINE : NO_SUCH_NUMBER;
        }

        int faultOfBid(int tenant, int link, int credits) {
            if (isOutside(tenant, 0, TENANTS - 1) || !links.has(link)) {
                return NO_SUCH_NUMBER;
            }
            return isOutside(credits, 0, MOST_BID) ? OUT_OF_RANGE : FINE;
        }

        /** Returns what the winner of the link gets back. */
        int takeDown(int link) {
            int back = 0;
            int winner = links.winner[link];
            if (winner != NONE && interval > 0) {
                int ticksLeft = interval - clock % interval;
                back = links.price[link] * ticksLeft / interval;
                tenants.credits[winner] += back;
                tenants.refunded[winner] += back;
            }
            links.up[link] = false;
            links.winner[link] = NONE;
            links.price[link] = 0;
            return back;
        }

        boolean isAuctionDue() {
            return interval > 0 && clock % interval == 0;
        }
    }

    /** The bridges with their vectors and tables, and the hosts that are at them. */
    private static final class BridgeRows {
        private static final int LONGEST_VALID = 50;

        final int[] priority = new int[MOST_BRIDGES];
        final int[] root = new int[MOST_BRIDGES];
        final int[] cost = new int[MOST_BRIDGES];
        final int[] age = new int[MOST_BRIDGES];
        final int[] rootLink = new int[MOST_BRIDGES];
        final int[] hostAt = new int[HOSTS];
        /** By bridge * HOSTS + host: a link, ITSELF, or NONE without an entry. */
        final int[] entryVia = new int[MOST_BRIDGES * HOSTS];
        final int[] entryMade = new int[MOST_BRIDGES * HOSTS];

        BridgeRows() {
        }

        void beginAnew(int newSize) {
            for (int b = 0; b < MOST_BRIDGES; b++) {
                priority[b] = 5;
                startVector(b);
                flush(b);
            }
            for (int host = 0; host < HOSTS; host++) {
                hostAt[host] = newSize > 0 ? host % newSize : 0;
            }
        }

        void copyFrom(BridgeRows other) {
            System.arraycopy(other.priority, 0, priority, 0, MOST_BRIDGES);
            System.arraycopy(other.root, 0, root, 0, MOST_BRIDGES);
            System.arraycopy(other.cost, 0, cost, 0, MOST_BRIDGES);
            System.arraycopy(other.age, 0, age, 0, MOST_BRIDGES);
            System.arraycopy(other.rootLink, 0, rootLink, 0, MOST_BRIDGES);
            System.arraycopy(other.hostAt, 0, hostAt, 0, HOSTS);
            System.arraycopy(other.entryVia, 0, entryVia, 0, MOST_BRIDGES * HOSTS);
            System.arraycopy(other.entryMade, 0, entryMade, 0, MOST_BRIDGES * HOSTS);
        }

        int idOf(int bridge) {
            return 10 * priority[bridge] + bridge;
        }

        void startVector(int bridge) {
            root[bridge] = idOf(bridge);
            cost[bridge] = 0;
            age[bridge] = 0;
            rootLink[bridge] = NONE;
        }

        int changePriority(int bridge, int newPriority) {
            int previous = priority[bridge];
            priority[bridge] = newPriority;
            startVector(bridge);
            return previous;
        }

        int placeHost(int host, int bridge) {
            int previous = hostAt[host];
            hostAt[host] = bridge;
            return previous;
        }

        void makeEntry(int bridge, int host, int via, int clock) {
            entryVia[bridge * HOSTS + host] = via;
            entryMade[bridge * HOSTS + host] = clock;
        }

        int validEntry(int bridge, int host, int clock) {
            int place = bridge * HOSTS + host;
            return clock - entryMade[place] <= LONGEST_VALID ? entryVia[place] : NONE;
        }

        void flush(int bridge) {
            for (int host = 0; host < HOSTS; host++) {
                makeEntry(bridge, host, NONE, 0);
            }
        }

        int countEntries(int bridge) {
            int entries = 0;
            for (int host = 0; host < HOSTS; host++) {
                if (entryVia[bridge * HOSTS + host] != NONE) {
                    entries++;
                }
            }
            return entries;
        }

        int valueOf(int bridge, int what) {
            switch (what) {
                case 0:
                    return idOf(bridge);
                case 1:
                    return root[bridge];
                case 2:
                    return cost[bridge];
                case 3:
                    return age[bridge];
                case 4:
                    return rootLink[bridge];
                default:
                    return countEntries(bridge);
            }
        }
    }

    /** The links, and their ports: 2 * link at the lower bridge, 2 * link + 1 at the higher one. */
    private static final class LinkRows {
        int total;
        final int[] low = new int[MOST_LINKS];
        final int[] high = new int[MOST_LINKS];
        final int[] base = new int[MOST_LINKS];
        final int[] cost = new int[MOST_LINKS];
        final boolean[] up = new boolean[MOST_LINKS];
        final int[] winner = new int[MOST_LINKS];
        final int[] price = new int[MOST_LINKS];
        /** In how many auctions in a row the wanted cost differed from the cost. */
        final int[] differed = new int[MOST_LINKS];
        final int[] role = new int[MOST_PORTS];
        final int[] state = new int[MOST_PORTS];
        final int[] timer = new int[MOST_PORTS];

        LinkRows() {
        }

        void copyFrom(LinkRows other) {
            total = other.total;
            System.arraycopy(other.low, 0, low, 0, MOST_LINKS);
            System.arraycopy(other.high, 0, high, 0, MOST_LINKS);
            System.arraycopy(other.base, 0, base, 0, MOST_LINKS);
            System.arraycopy(other.cost, 0, cost, 0, MOST_LINKS);
            System.arraycopy(other.up, 0, up, 0, MOST_LINKS);
            System.arraycopy(other.winner, 0, winner, 0, MOST_LINKS);
            System.arraycopy(other.price, 0, price, 0, MOST_LINKS);
            System.arraycopy(other.differed, 0, differed, 0, MOST_LINKS);
            System.arraycopy(other.role, 0, role, 0, MOST_PORTS);
            System.arraycopy(other.state, 0, state, 0, MOST_PORTS);
            System.arraycopy(other.timer, 0, timer, 0, MOST_PORTS);
        }

        boolean has(int link) {
            return link >= 0 && link < total;
        }

        int append(int a, int b, int newCost) {
            int link = total;
            if (link < 0 || link >= MOST_LINKS) {
                return NONE;
            }
            total = link + 1;
            low[link] = Math.min(a, b);
            high[link] = Math.max(a, b);
            base[link] = newCost;
            cost[link] = newCost;
            up[link] = true;
            winner[link] = NONE;
            price[link] = 0;
            differed[link] = 0;
            for (int port = 2 * link; port <= 2 * link + 1; port++) {
                role[port] = ALTERNATE;
                state[port] = BLOCKING;
                timer[port] = 0;
            }
            return link;
        }

        /** Returns the number of links that are up then. */
        int bringUp(int link) {
            up[link] = true;
            int ups = 0;
            for (int l = 0; l < total; l++) {
                if (up[l]) {
                    ups++;
                }
            }
            return ups;
        }

        boolean touches(int link, int bridge) {
            return low[link] == bridge || high[link] == bridge;
        }

        int otherEnd(int link, int bridge) {
            return low[link] == bridge ? high[link] : low[link];
        }

        boolean carries(int link) {
            return has(link) && up[link]
                    && state[2 * link] == FORWARDING && state[2 * link + 1] == FORWARDING;
        }

        int countCarrying() {
            int carrying = 0;
            for (int link = 0; link < total; link++) {
                if (carries(link)) {
                    carrying++;
                }
            }
            return carrying;
        }

        int countWonBy(int tenant) {
            int won = 0;
            for (int link = 0; link < total; link++) {
                if (winner[link] == tenant) {
                    won++;
                }
            }
            return won;
        }

        int valueOf(int link, int what) {
            switch (what) {
                case 0:
                    return low[link];
                case 1:
                    return high[link];
                case 2:
                    return base[link];
                case 3:
                    return cost[link];
                case 4:
                    return up[link] ? 1 : 0;
                case 5:
                    return winner[link];
                case 6:
                    return price[link];
                case 7:
                    return carries(link) ? 1 : 0;
                default:
                    return differed[link];
            }
        }
    }

    private static final class TenantRows {
        final int[] credits = new int[TENANTS];
        final int[] paid = new int[TENANTS];
        final int[] refunded = new int[TENANTS];
        /** By tenant * MOST_LINKS + link; 0 for links that are not there yet. */
        final int[] bids = new int[TENANTS * MOST_LINKS];

        TenantRows() {
        }

        void beginAnew() {
            for (int tenant = 0; tenant < TENANTS; tenant++) {
                credits[tenant] = 100;
                paid[tenant] = 0;
                refunded[tenant] = 0;
            }
            for (int place = 0; place < TENANTS * MOST_LINKS; place++) {
                bids[place] = 0;
            }
        }

        void copyFrom(TenantRows other) {
            System.arraycopy(other.credits, 0, credits, 0, TENANTS);
            System.arraycopy(other.paid, 0, paid, 0, TENANTS);
            System.arraycopy(other.refunded, 0, refunded, 0, TENANTS);
            System.arraycopy(other.bids, 0, bids, 0, TENANTS * MOST_LINKS);
        }

        int changeBid(int tenant, int link, int newBid) {
            int place = tenant * MOST_LINKS + link;
            int previous = bids[place];
            bids[place] = newBid;
            return previous;
        }

        /** The bid, or 0 if it does not count at this moment. */
        int countingBid(int tenant, int link) {
            int offer = bids[tenant * MOST_LINKS + link];
            return offer <= credits[tenant] ? offer : 0;
        }
    }

    private static final class Auction {
        private static final int PATIENCE = 3;

        private Auction() {
        }

        static void hold(Network net) {
            net.auctions++;
            for (int tenant = 0; tenant < TENANTS; tenant++) {
                net.tenants.credits[tenant] = 9 * net.tenants.credits[tenant] / 10 + 20;
            }
            for (int link = 0; link < net.links.total; link++) {
                sell(net.links, net.tenants, link);
            }
            for (int link = 0; link < net.links.total; link++) {
                adjustCost(net.links, link, net.hysteresis);
            }
        }

        private static void sell(LinkRows links, TenantRows tenants, int link) {
            links.winner[link] = NONE;
            links.price[link] = 0;
            if (!links.up[link]) {
                return;
            }
            int winner = NONE;
            int greatest = 0;
            int second = 0;
            for (int tenant = 0; tenant < TENANTS; tenant++) {
                int offer = tenants.countingBid(tenant, link);
                if (offer > greatest) {
                    second = greatest;
                    greatest = offer;
                    winner = tenant;
                } else if (offer > second) {
                    second = offer;
                }
            }
            if (winner == NONE) {
                return;
            }
            int price = second > 0 ? second : 1;
            links.winner[link] = winner;
            links.price[link] = price;
            tenants.credits[winner] -= price;
            tenants.paid[winner] += price;
        }

        private static void adjustCost(LinkRows links, int link, int hysteresis) {
            int wanted = links.base[link] + links.price[link];
            int gap = Math.abs(wanted - links.cost[link]);
            links.differed[link] = gap == 0 ? 0 : links.differed[link] + 1;
            if (gap > hysteresis || links.differed[link] >= PATIENCE) {
                links.cost[link] = wanted;
                links.differed[link] = 0;
            }
        }
    }

    /** Finds the vectors of a tick; the new ones stand apart until all bridges have theirs. */
    private static final class Vectors {
        private static final int OLDEST = 10;

        private final int[] root = new int[MOST_BRIDGES];
        private final int[] cost = new int[MOST_BRIDGES];
        private final int[] age = new int[MOST_BRIDGES];
        private final int[] rootLink = new int[MOST_BRIDGES];
        /** The id of the bridge from which the best candidate so far came. */
        private final int[] fromId = new int[MOST_BRIDGES];

        Vectors() {
        }

        void renew(Network net) {
            for (int bridge = 0; bridge < net.size; bridge++) {
                fromId[bridge] = net.bridges.idOf(bridge);
                root[bridge] = fromId[bridge];
                cost[bridge] = 0;
                age[bridge] = 0;
                rootLink[bridge] = NONE;
            }
            for (int link = 0; link < net.links.total; link++) {
                if (net.links.up[link]) {
                    int low = net.links.low[link];
                    int high = net.links.high[link];
                    consider(net, link, low, high);
                    consider(net, link, high, low);
                }
            }
            System.arraycopy(root, 0, net.bridges.root, 0, net.size);
            System.arraycopy(cost, 0, net.bridges.cost, 0, net.size);
            System.arraycopy(age, 0, net.bridges.age, 0, net.size);
            System.arraycopy(rootLink, 0, net.bridges.rootLink, 0, net.size);
        }

        /** Offers a bridge the candidate from the other end of a link. */
        private void consider(Network net, int link, int bridge, int other) {
            int newRoot = net.bridges.root[other];
            int newCost = net.bridges.cost[other] + net.links.cost[link];
            int newFromId = net.bridges.idOf(other);
            if (net.bridges.age[other] < OLDEST && isBetter(bridge, newRoot, newCost, newFromId)) {
                fromId[bridge] = newFromId;
                root[bridge] = newRoot;
                cost[bridge] = newCost;
                age[bridge] = net.bridges.age[other] + 1;
                rootLink[bridge] = link;
            }
        }

        /** Links are tried in ascending order, so among equals the lowest link stays. */
        private boolean isBetter(int bridge, int newRoot, int newCost, int newFromId) {
            if (newRoot != root[bridge]) {
                return newRoot < root[bridge];
            }
            if (newCost != cost[bridge]) {
                return newCost < cost[bridge];
            }
            return newFromId < fromId[bridge];
        }
    }

    private static final class Ports {
        /** The bridges with a port that began or ended to forward in this tick. */
        private final boolean[] changed = new boolean[MOST_BRIDGES];

        Ports() {
        }

        /** Returns whether some port began or ended to forward. */
        boolean renew(Network net) {
            int changesBefore = net.changes;
            for (int bridge = 0; bridge < MOST_BRIDGES; bridge++) {
                changed[bridge] = false;
            }
            for (int link = 0; link < net.links.total; link++) {
                int low = net.links.low[link];
                int high = net.links.high[link];
                renewPort(net, link, low, high);
                renewPort(net, link, high, low);
            }
            return net.changes != changesBefore;
        }

        private void renewPort(Network net, int link, int bridge, int other) {
            LinkRows links = net.links;
            int port = bridge < other ? 2 * link : 2 * link + 1;
            boolean forwarded = links.state[port] == FORWARDING;
            links.role[port] = roleOf(net.bridges, links, link, bridge, other);
            moveState(links, port, net.delay);
            if (forwarded != (links.state[port] == FORWARDING)) {
                net.changes++;
                changed[bridge] = true;
            }
        }

        private static int roleOf(BridgeRows bridges, LinkRows links, int link, int bridge, int other) {
            if (!links.up[link]) {
                return ALTERNATE;
            }
            if (bridges.rootLink[bridge] == link) {
                return ROOT;
            }
            return comesBefore(bridges, bridge, other) ? DESIGNATED : ALTERNATE;
        }

        private static boolean comesBefore(BridgeRows bridges, int bridge, int other) {
            if (bridges.root[bridge] != bridges.root[other]) {
                return bridges.root[bridge] < bridges.root[other];
            }
            if (bridges.cost[bridge] != bridges.cost[other]) {
                return bridges.cost[bridge] < bridges.cost[other];
            }
            return bridges.idOf(bridge) < bridges.idOf(other);
        }

        private static void moveState(LinkRows links, int port, int delay) {
            if (links.role[port] == ALTERNATE) {
                links.state[port] = BLOCKING;
                links.timer[port] = 0;
                return;
            }
            if (links.state[port] == BLOCKING) {
                links.state[port] = LISTENING;
                links.timer[port] = delay;
                return;
            }
            if (links.state[port] == FORWARDING) {
                return;
            }
            links.timer[port]--;
            if (links.timer[port] == 0 && links.state[port] == LISTENING) {
                links.state[port] = LEARNING;
                links.timer[port] = delay;
            } else if (links.timer[port] == 0) {
                links.state[port] = FORWARDING;
            }
        }

        void flushTables(Network net, Paths paths) {
            for (int bridge = 0; bridge < net.size; bridge++) {
                for (int from = 0; from < net.size; from++) {
                    if (changed[from] && paths.areJoined(from, bridge)) {
                        net.bridges.flush(bridge);
                    }
                }
            }
        }
    }

    /** The groups of bridges that can reach one another by links that carry frames. */
    private static final class Paths {
        private final int[] group = new int[MOST_BRIDGES];

        Paths() {
        }

        /** Returns whether the links that carry frames form no cycle. */
        boolean findGroups(Network net) {
            boolean forest = true;
            for (int bridge = 0; bridge < MOST_BRIDGES; bridge++) {
                group[bridge] = bridge;
            }
            for (int link = 0; link < net.links.total; link++) {
                if (net.links.carries(link)) {
                    boolean joins = join(group[net.links.low[link]], group[net.links.high[link]]);
                    forest = forest && joins;
                }
            }
            return forest;
        }

        private boolean join(int kept, int given) {
            for (int bridge = 0; bridge < MOST_BRIDGES; bridge++) {
                if (group[bridge] == given) {
                    group[bridge] = kept;
                }
            }
            return kept != given;
        }

        boolean areJoined(int a, int b) {
            return group[a] == group[b];
        }

        int countPairs(int size) {
            int pairs = 0;
            for (int high = 0; high < size; high++) {
                for (int low = 0; low < high; low++) {
                    if (areJoined(low, high)) {
                        pairs++;
                    }
                }
            }
            return pairs;
        }
    }

    /** Sends one frame at a time; its rows are those of the frame that is on its way. */
    private static final class Frames {
        private static final int DELIVERED = 1000;

        private final boolean[] received = new boolean[MOST_BRIDGES];
        /** By bridge: the link by which the frame came, or ITSELF from the host. */
        private final int[] cameBy = new int[MOST_BRIDGES];
        /** The bridges in the order in which they received the frame. */
        private final int[] order = new int[MOST_BRIDGES];
        private int receivers;
        private int used;
        private boolean delivered;

        Frames() {
        }

        int carry(Network net, int from, int to) {
            for (int bridge = 0; bridge < MOST_BRIDGES; bridge++) {
                received[bridge] = false;
            }
            receivers = 0;
            used = 0;
            delivered = false;
            receive(net, net.bridges.hostAt[from], ITSELF, from);
            for (int i = 0; i < MOST_BRIDGES && i < receivers; i++) {
                serve(net, order[i], from, to);
            }
            net.sent++;
            net.used += used;
            if (!delivered) {
                return used;
            }
            net.delivered++;
            return used + DELIVERED;
        }

        private void receive(Network net, int bridge, int via, int from) {
            if (received[bridge] || receivers >= MOST_BRIDGES) {
                return;
            }
            received[bridge] = true;
            cameBy[bridge] = via;
            order[receivers] = bridge;
            receivers++;
            net.bridges.makeEntry(bridge, from, via, net.clock);
        }

        private void serve(Network net, int bridge, int from, int to) {
            if (net.bridges.hostAt[to] == bridge) {
                delivered = true;
                return;
            }
            int known = net.bridges.validEntry(bridge, to, net.clock);
            if (net.links.carries(known) && known != cameBy[bridge]) {
                sendOn(net, bridge, known, from);
                return;
            }
            for (int link = 0; link < net.links.total; link++) {
                if (net.links.carries(link) && net.links.touches(link, bridge)
                        && link != cameBy[bridge]) {
                    sendOn(net, bridge, link, from);
                }
            }
        }

        private void sendOn(Network net, int bridge, int link, int from) {
            used++;
            receive(net, net.links.otherEnd(link, bridge), link, from);
        }
    }

    /** The script's bytes, and a reader of its commands. */
    private static final class Script {
        static final int LINK = 0, BID = 1, FAIL = 2, FIX = 3, PRIO = 4, HOST = 5, TICK = 6;

        private static final int MOST_BYTES = 120;
        private static final int MOST_NUMBERS = 3;
        private static final int MOST_DIGITS = 4;
        private static final int LONGEST_WORD = 4;
        /** The words in the order of their constants, each with spaces behind it up to five signs. */
        private static final String WORDS = "link bid  fail fix  prio host tick ";
        /** How many numbers follow each word. */
        private static final int[] NUMBERS = {3, 3, 1, 1, 2, 2, 1};

        int length;
        /** The command that was read last. */
        int word;
        final int[] numbers = new int[MOST_NUMBERS];

        private final int[] bytes = new int[MOST_BYTES];
        private int place;
        private int fault;

        Script() {
        }

        boolean isFull() {
            return length >= MOST_BYTES;
        }

        int append(int value) {
            if (!isFull()) {
                bytes[length] = value;
                length++;
            }
            return length;
        }

        void rewind() {
            place = 0;
            fault = NONE;
        }

        /** Returns the index of the fault, or NONE. */
        int findFault() {
            rewind();
            for (int i = 0; i <= length; i++) {
                if (!readCommand()) {
                    return fault;
                }
            }
            return fault;
        }

        /** Reads the next command; false behind the last one, or with a fault. */
        boolean readCommand() {
            skipSpaces();
            if (place >= length) {
                return false;
            }
            if (!readWord()) {
                return false;
            }
            for (int i = 0; i < MOST_NUMBERS; i++) {
                numbers[i] = 0;
            }
            for (int i = 0; i < NUMBERS[word] && i < MOST_NUMBERS; i++) {
                if (!readNumber(i)) {
                    return false;
                }
            }
            skipSpaces();
            if (byteHere() != ';') {
                return stopHere();
            }
            place++;
            return true;
        }

        private boolean readWord() {
            int start = place;
            while (place < length && isLetter(bytes[place])) {
                place++;
            }
            if (place == start) {
                return stopHere();
            }
            for (int w = LINK; w <= TICK; w++) {
                if (isWord(w, start, place - start)) {
                    word = w;
                    return true;
                }
            }
            place = start;
            return stopHere();
        }

        private boolean isWord(int candidate, int start, int letters) {
            if (letters > LONGEST_WORD) {
                return false;
            }
            int wordStart = candidate * (LONGEST_WORD + 1);
            for (int i = 0; i < letters; i++) {
                if (WORDS.charAt(wordStart + i) != bytes[start + i]) {
                    return false;
                }
            }
            return WORDS.charAt(wordStart + letters) == ' ';
        }

        private boolean readNumber(int which) {
            if (byteHere() != ' ') {
                return stopHere();
            }
            skipSpaces();
            int start = place;
            int value = 0;
            while (place < length && place < start + MOST_DIGITS && isDigit(bytes[place])) {
                value = 10 * value + bytes[place] - '0';
                place++;
            }
            if (place == start) {
                return stopHere();
            }
            numbers[which] = value;
            return true;
        }

        private void skipSpaces() {
            while (place < length && bytes[place] == ' ') {
                place++;
            }
        }

        /** The byte at the place, or NONE at the end. */
        private int byteHere() {
            return place < length ? bytes[place] : NONE;
        }

        private boolean stopHere() {
            fault = place;
            return false;
        }

        private static boolean isLetter(int value) {
            return value >= 'a' && value <= 'z';
        }

        private static boolean isDigit(int value) {
            return value >= '0' && value <= '9';
        }
    }

    /** The latest saved states; the last row in use is the latest one. */
    private static final class UndoStack {
        private static final int DEPTH = 3;

        private final Network[] rows = new Network[DEPTH];
        int size;

        UndoStack() {
            for (int i = 0; i < DEPTH; i++) {
                rows[i] = new Network();
            }
        }

        void save(Network net) {
            if (size >= DEPTH) {
                dropOldest();
            }
            rows[size].copyFrom(net);
            size++;
        }

        /** The oldest row's arrays are used again for the next state. */
        private void dropOldest() {
            Network oldest = rows[0];
            for (int i = 1; i < DEPTH; i++) {
                rows[i - 1] = rows[i];
            }
            rows[DEPTH - 1] = oldest;
            size = DEPTH - 1;
        }

        void restore(Network net) {
            if (size > 0) {
                size--;
                net.copyFrom(rows[size]);
            }
        }
    }
}
