import java.util.ArrayDeque;
import java.util.ArrayList;
import java.util.Deque;
import java.util.HashMap;
import java.util.List;
import java.util.Map;
import java.util.regex.Matcher;
import java.util.regex.Pattern;

/**
 * A second BridgeAuction, written from the document alone in another way (objects, lists, maps,
 * whole copies, patterns), to be compared with the first one.
 */
final class Model {
    static final class Vector implements Comparable<Vector> {
        final int root, cost, age, link, from;

        Vector(int root, int cost, int age, int link, int from) {
            this.root = root;
            this.cost = cost;
            this.age = age;
            this.link = link;
            this.from = from;
        }

        @Override
        public int compareTo(Vector o) {
            int c = Integer.compare(root, o.root);
            c = c != 0 ? c : Integer.compare(cost, o.cost);
            c = c != 0 ? c : Integer.compare(from, o.from);
            return c != 0 ? c : Integer.compare(link, o.link);
        }
    }

    static final class Bridge {
        int number, priority = 5;
        Vector vector;
        Map<Integer, int[]> table = new HashMap<>();

        int id() {
            return priority * 10 + number;
        }

        void start() {
            vector = new Vector(id(), 0, 0, -1, id());
        }

        Bridge copy() {
            Bridge b = new Bridge();
            b.number = number;
            b.priority = priority;
            b.vector = vector;
            table.forEach((h, e) -> b.table.put(h, e.clone()));
            return b;
        }
    }

    static final class Port {
        int role = 2, state, timer;

        Port copy() {
            Port p = new Port();
            p.role = role;
            p.state = state;
            p.timer = timer;
            return p;
        }
    }

    static final class Link {
        int low, high, base, cost, winner = -1, price, row;
        boolean up = true;
        Port[] ports = {new Port(), new Port()};
        int[] bids = new int[4];

        boolean carries() {
            return up && ports[0].state == 3 && ports[1].state == 3;
        }

        Link copy() {
            Link l = new Link();
            l.low = low;
            l.high = high;
            l.base = base;
            l.cost = cost;
            l.winner = winner;
            l.price = price;
            l.row = row;
            l.up = up;
            l.ports = new Port[] {ports[0].copy(), ports[1].copy()};
            l.bids = bids.clone();
            return l;
        }
    }

    static final class State {
        int time, delay = 3, interval = 10, hysteresis = 5;
        List<Bridge> bridges = new ArrayList<>();
        List<Link> links = new ArrayList<>();
        int[] host = new int[8];
        int[][] tenants = new int[4][3];
        int[] counts = new int[5];

        State copy() {
            State s = new State();
            s.time = time;
            s.delay = delay;
            s.interval = interval;
            s.hysteresis = hysteresis;
            bridges.forEach(b -> s.bridges.add(b.copy()));
            links.forEach(l -> s.links.add(l.copy()));
            s.host = host.clone();
            for (int t = 0; t < 4; t++) {
                s.tenants[t] = tenants[t].clone();
            }
            s.counts = counts.clone();
            return s;
        }
    }

    State s = new State();
    Deque<State> undo = new ArrayDeque<>();
    StringBuilder script = new StringBuilder();

    Model() {
        begin(4);
    }

    private void begin(int bridges) {
        State n = new State();
        n.delay = s.delay;
        n.interval = s.interval;
        n.hysteresis = s.hysteresis;
        for (int b = 0; b < bridges; b++) {
            Bridge bridge = new Bridge();
            bridge.number = b;
            bridge.start();
            n.bridges.add(bridge);
        }
        for (int h = 0; h < 8; h++) {
            n.host[h] = h % bridges;
        }
        for (int t = 0; t < 4; t++) {
            n.tenants[t][0] = 100;
        }
        s = n;
    }

    private void save() {
        undo.addLast(s.copy());
        if (undo.size() > 3) {
            undo.removeFirst();
        }
    }

    private void index(boolean fine) {
        if (!fine) {
            throw new IndexOutOfBoundsException();
        }
    }

    private void argument(boolean fine) {
        if (!fine) {
            throw new IllegalArgumentException();
        }
    }

    private void state(boolean fine) {
        if (!fine) {
            throw new IllegalStateException();
        }
    }

    private boolean in(int v, int from, int to) {
        return from <= v && v <= to;
    }

    private boolean isBridge(int b) {
        return in(b, 0, s.bridges.size() - 1);
    }

    private boolean isLink(int l) {
        return in(l, 0, s.links.size() - 1);
    }

    int setBridges(int bridges) {
        argument(in(bridges, 2, 8));
        save();
        int old = s.bridges.size();
        begin(bridges);
        return old;
    }

    int setTimes(int delay, int interval, int hysteresis) {
        argument(in(delay, 1, 20) && in(interval, 5, 100) && in(hysteresis, 0, 100));
        save();
        int old = s.interval;
        s.delay = delay;
        s.interval = interval;
        s.hysteresis = hysteresis;
        return old;
    }

    int setPriority(int bridge, int priority) {
        index(isBridge(bridge));
        argument(in(priority, 0, 9));
        save();
        Bridge b = s.bridges.get(bridge);
        int old = b.priority;
        b.priority = priority;
        b.start();
        return old;
    }

    int addLink(int a, int b, int cost) {
        index(isBridge(a) && isBridge(b));
        argument(a != b && in(cost, 1, 100));
        state(s.links.size() < 16);
        save();
        Link l = new Link();
        l.low = Math.min(a, b);
        l.high = Math.max(a, b);
        l.base = cost;
        l.cost = cost;
        s.links.add(l);
        return s.links.size() - 1;
    }

    int fail(int link) {
        index(isLink(link));
        Link l = s.links.get(link);
        state(l.up);
        save();
        int back = 0;
        if (l.winner >= 0) {
            int r = 1;
            while ((s.time + r) % s.interval != 0) {
                r++;
            }
            back = (int) Math.floor((double) l.price * r / s.interval);
            s.tenants[l.winner][0] += back;
            s.tenants[l.winner][2] += back;
        }
        l.up = false;
        l.winner = -1;
        l.price = 0;
        return back;
    }

    int fix(int link) {
        index(isLink(link));
        state(!s.links.get(link).up);
        save();
        s.links.get(link).up = true;
        return (int) s.links.stream().filter(l -> l.up).count();
    }

    int moveHost(int host, int bridge) {
        index(in(host, 0, 7) && isBridge(bridge));
        save();
        int old = s.host[host];
        s.host[host] = bridge;
        return old;
    }

    int bid(int tenant, int link, int credits) {
        index(in(tenant, 0, 3) && isLink(link));
        argument(in(credits, 0, 1000));
        save();
        int old = s.links.get(link).bids[tenant];
        s.links.get(link).bids[tenant] = credits;
        return old;
    }

    int grant(int tenant, int credits) {
        index(in(tenant, 0, 3));
        argument(in(credits, 0, 10000));
        state(s.tenants[tenant][0] + credits <= 1000000);
        save();
        return s.tenants[tenant][0] += credits;
    }

    int tick(int ticks) {
        argument(in(ticks, 1, 200));
        save();
        for (int i = 0; i < ticks; i++) {
            s.time++;
            if (s.time % s.interval == 0) {
                auction();
            }
            vectors();
            ports();
        }
        return s.time;
    }

    private void auction() {
        s.counts[0]++;
        for (int[] t : s.tenants) {
            t[0] = (int) Math.floor(t[0] * 9 / 10.0) + 20;
        }
        for (Link l : s.links) {
            List<Integer> offers = new ArrayList<>();
            for (int t = 0; t < 4 && l.up; t++) {
                if (l.bids[t] > 0 && l.bids[t] <= s.tenants[t][0]) {
                    offers.add(t);
                }
            }
            offers.sort((a, b) -> l.bids[a] != l.bids[b] ? l.bids[b] - l.bids[a] : a - b);
            l.winner = offers.isEmpty() ? -1 : offers.get(0);
            l.price = offers.isEmpty() ? 0 : offers.size() == 1 ? 1 : l.bids[offers.get(1)];
            if (l.winner >= 0) {
                s.tenants[l.winner][0] -= l.price;
                s.tenants[l.winner][1] += l.price;
            }
            int wanted = l.base + l.price;
            l.row = wanted == l.cost ? 0 : l.row + 1;
            if (Math.abs(wanted - l.cost) > s.hysteresis || l.row == 3) {
                l.cost = wanted;
                l.row = 0;
            }
        }
    }

    private void vectors() {
        List<Vector> found = new ArrayList<>();
        for (Bridge b : s.bridges) {
            Vector best = new Vector(b.id(), 0, 0, -1, b.id());
            for (int i = 0; i < s.links.size(); i++) {
                Link l = s.links.get(i);
                if (l.up && (l.low == b.number || l.high == b.number)) {
                    Bridge o = s.bridges.get(l.low + l.high - b.number);
                    Vector v = o.vector;
                    Vector c = new Vector(v.root, v.cost + l.cost, v.age + 1, i, o.id());
                    if (v.age < 10 && c.compareTo(best) < 0) {
                        best = c;
                    }
                }
            }
            found.add(best);
        }
        for (Bridge b : s.bridges) {
            b.vector = found.get(b.number);
        }
    }

    private void ports() {
        List<Integer> flush = new ArrayList<>();
        for (int i = 0; i < s.links.size(); i++) {
            Link l = s.links.get(i);
            for (int side = 0; side < 2; side++) {
                Bridge b = s.bridges.get(side == 0 ? l.low : l.high);
                Bridge o = s.bridges.get(side == 0 ? l.high : l.low);
                Port p = l.ports[side];
                boolean before = p.state == 3;
                Vector mine = new Vector(b.vector.root, b.vector.cost, 0, 0, b.id());
                Vector its = new Vector(o.vector.root, o.vector.cost, 0, 0, o.id());
                p.role = !l.up ? 2 : b.vector.link == i ? 0 : mine.compareTo(its) < 0 ? 1 : 2;
                if (p.role == 2) {
                    p.state = 0;
                    p.timer = 0;
                } else if (p.state == 0) {
                    p.state = 1;
                    p.timer = s.delay;
                } else if (p.state < 3 && --p.timer == 0) {
                    p.state++;
                    p.timer = p.state == 2 ? s.delay : 0;
                }
                if (before != (p.state == 3)) {
                    s.counts[1]++;
                    flush.add(b.number);
                }
            }
        }
        boolean[][] reach = reach();
        for (int from : flush) {
            for (Bridge b : s.bridges) {
                if (reach[from][b.number]) {
                    b.table.clear();
                }
            }
        }
    }

    private boolean[][] reach() {
        int n = s.bridges.size();
        boolean[][] r = new boolean[n][n];
        for (int b = 0; b < n; b++) {
            r[b][b] = true;
        }
        for (Link l : s.links) {
            if (l.carries()) {
                r[l.low][l.high] = true;
                r[l.high][l.low] = true;
            }
        }
        for (int k = 0; k < n; k++) {
            for (int i = 0; i < n; i++) {
                for (int j = 0; j < n; j++) {
                    r[i][j] |= r[i][k] && r[k][j];
                }
            }
        }
        return r;
    }

    int time() {
        return s.time;
    }

    int send(int from, int to) {
        index(in(from, 0, 7) && in(to, 0, 7));
        argument(from != to);
        save();
        s.counts[2]++;
        int used = 0;
        boolean delivered = false;
        Deque<int[]> queue = new ArrayDeque<>();
        List<Integer> seen = new ArrayList<>();
        queue.add(new int[] {s.host[from], 100});
        seen.add(s.host[from]);
        s.bridges.get(s.host[from]).table.put(from, new int[] {100, s.time});
        while (!queue.isEmpty()) {
            int[] at = queue.remove();
            if (s.host[to] == at[0]) {
                delivered = true;
                continue;
            }
            List<Integer> out = new ArrayList<>();
            int known = entry(at[0], to);
            if (known >= 0 && known < 100 && known != at[1] && s.links.get(known).carries()) {
                out.add(known);
            } else {
                for (int i = 0; i < s.links.size(); i++) {
                    Link l = s.links.get(i);
                    if (l.carries() && i != at[1] && (l.low == at[0] || l.high == at[0])) {
                        out.add(i);
                    }
                }
            }
            for (int i : out) {
                used++;
                int next = s.links.get(i).low + s.links.get(i).high - at[0];
                if (!seen.contains(next)) {
                    seen.add(next);
                    queue.add(new int[] {next, i});
                    s.bridges.get(next).table.put(from, new int[] {i, s.time});
                }
            }
        }
        s.counts[3] += delivered ? 1 : 0;
        s.counts[4] += used;
        return used + (delivered ? 1000 : 0);
    }

    int bridge(int bridge, int what) {
        index(isBridge(bridge));
        argument(in(what, 0, 5));
        Bridge b = s.bridges.get(bridge);
        int[] values = {b.id(), b.vector.root, b.vector.cost, b.vector.age, b.vector.link, b.table.size()};
        return values[what];
    }

    int links() {
        return s.links.size();
    }

    int link(int link, int what) {
        index(isLink(link));
        argument(in(what, 0, 8));
        Link l = s.links.get(link);
        int[] values = {l.low, l.high, l.base, l.cost, l.up ? 1 : 0, l.winner, l.price, l.carries() ? 1 : 0, l.row};
        return values[what];
    }

    int port(int link, boolean higher, int what) {
        index(isLink(link));
        argument(in(what, 0, 2));
        Port p = s.links.get(link).ports[higher ? 1 : 0];
        return new int[] {p.role, p.state, p.timer}[what];
    }

    int entry(int bridge, int host) {
        index(isBridge(bridge) && in(host, 0, 7));
        int[] e = s.bridges.get(bridge).table.get(host);
        return e == null || s.time - e[1] > 50 ? -1 : e[0];
    }

    int tenant(int tenant, int what) {
        index(in(tenant, 0, 3));
        argument(in(what, 0, 3));
        if (what == 1) {
            return (int) s.links.stream().filter(l -> l.winner == tenant).count();
        }
        return s.tenants[tenant][what == 0 ? 0 : what - 1];
    }

    int bidOf(int tenant, int link) {
        index(in(tenant, 0, 3) && isLink(link));
        return s.links.get(link).bids[tenant];
    }

    int count(int what) {
        argument(in(what, 0, 6));
        if (what < 5) {
            return s.counts[what];
        }
        if (what == 5) {
            return (int) s.links.stream().filter(Link::carries).count();
        }
        int pairs = 0;
        for (boolean[] row : reach()) {
            for (boolean r : row) {
                pairs += r ? 1 : 0;
            }
        }
        return (pairs - s.bridges.size()) / 2;
    }

    /** A graph is a forest if its parts are as many as its nodes without its links. */
    boolean isForest() {
        boolean[][] reach = reach();
        int parts = 0;
        for (int b = 0; b < s.bridges.size(); b++) {
            boolean first = true;
            for (int a = 0; a < b; a++) {
                first &= !reach[a][b];
            }
            parts += first ? 1 : 0;
        }
        return parts == s.bridges.size() - count(5);
    }

    int type(int value) {
        argument(in(value, 0, 127));
        state(script.length() < 120);
        script.append((char) value);
        return script.length();
    }

    int clearScript() {
        int old = script.length();
        script.setLength(0);
        return old;
    }

    private static final String N = " +[0-9]{1,4}";
    private static final String COMMAND = " *(?:(?:link|bid)" + N + N + N + "|(?:prio|host)" + N + N
            + "|(?:fail|fix|tick)" + N + ") *;";
    private static final Pattern WHOLE = Pattern.compile("(?:" + COMMAND + ")* *", Pattern.DOTALL);
    private static final Pattern ONE = Pattern.compile(" *([a-z]+)((?: +[0-9]+)+) *;");

    /** The longest prefix of the text that some script without a fault begins with. */
    private int fault() {
        String text = script.toString();
        if (WHOLE.matcher(text).matches()) {
            return -1;
        }
        Matcher all = Pattern.compile("(?:" + COMMAND + ")*+ *+").matcher(text);
        all.lookingAt();
        int wordStart = all.end();
        int wordEnd = wordStart;
        while (wordEnd < text.length() && text.charAt(wordEnd) >= 'a' && text.charAt(wordEnd) <= 'z') {
            wordEnd++;
        }
        if (!text.substring(wordStart, wordEnd).matches("link|bid|fail|fix|prio|host|tick")) {
            return wordStart;
        }
        for (int end = wordEnd; end <= text.length(); end++) {
            Matcher m = WHOLE.matcher(text.substring(0, end));
            if (!m.matches() && !m.hitEnd()) {
                return end - 1;
            }
        }
        return text.length();
    }

    int run() {
        int fault = fault();
        if (fault >= 0) {
            return -10 - fault;
        }
        save();
        Deque<State> kept = new ArrayDeque<>(undo);
        int done = 0;
        Matcher m = ONE.matcher(script);
        while (m.find()) {
            String[] texts = m.group(2).trim().split(" +");
            int[] n = new int[3];
            for (int i = 0; i < texts.length; i++) {
                n[i] = Integer.parseInt(texts[i]);
            }
            try {
                command(m.group(1), n);
            } catch (RuntimeException e) {
                break;
            }
            done++;
        }
        undo = kept;
        return done;
    }

    private int command(String word, int[] n) {
        switch (word) {
            case "link": return addLink(n[0], n[1], n[2]);
            case "bid": return bid(n[0], n[1], n[2]);
            case "fail": return fail(n[0]);
            case "fix": return fix(n[0]);
            case "prio": return setPriority(n[0], n[1]);
            case "host": return moveHost(n[0], n[1]);
            default: return tick(n[0]);
        }
    }

    int undo() {
        state(!undo.isEmpty());
        s = undo.removeLast();
        return undo.size();
    }

    long digest() {
        List<Integer> v = new ArrayList<>(List.of(undo.size(), script.length(), s.bridges.size(), s.time,
                s.delay, s.interval, s.hysteresis));
        for (int b = 0; b < s.bridges.size(); b++) {
            for (int what = 0; what < 6; what++) {
                v.add(bridge(b, what));
            }
            for (int h = 0; h < 8; h++) {
                v.add(entry(b, h));
            }
        }
        for (int h : s.host) {
            v.add(h);
        }
        v.add(links());
        for (int l = 0; l < links(); l++) {
            for (int what = 0; what < 9; what++) {
                v.add(link(l, what));
            }
            for (int what = 0; what < 6; what++) {
                v.add(port(l, what > 2, what % 3));
            }
            for (int t = 0; t < 4; t++) {
                v.add(bidOf(t, l));
            }
        }
        for (int i = 0; i < 16; i++) {
            v.add(tenant(i / 4, i % 4));
        }
        for (int what = 0; what < 7; what++) {
            v.add(count(what));
        }
        v.add(isForest() ? 1 : 0);
        long h = 18498;
        for (int value : v) {
            h = 31 * h + value;
        }
        return h;
    }
}
