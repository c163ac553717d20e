import java.util.ArrayDeque;
import java.util.ArrayList;
import java.util.Arrays;
import java.util.List;
import java.util.NoSuchElementException;
import java.util.TreeSet;

/** The document once more, as plainly as the Java library allows: what FuzzTest holds the class against. */
final class Model {
    static final int NONE = -1;

    record Stamp(int number, int node) implements Comparable<Stamp> {
        public int compareTo(Stamp o) {
            return number != o.number ? Integer.compare(number, o.number) : Integer.compare(node, o.node);
        }
    }

    record Packet(int time, int kind, int message, Stamp stamp, boolean fin) { }

    record Event(int time, boolean crash, int node, int group) { }

    static final class Gather {
        TreeSet<Integer> heard = new TreeSet<>();
        Stamp greatest;
        Stamp greatestFinal;

        Gather copy() {
            Gather g = new Gather();
            g.heard.addAll(heard);
            g.greatest = greatest;
            g.greatestFinal = greatestFinal;
            return g;
        }
    }

    static final class Hold {
        int kind;
        Stamp stamp;
        int leader;
        int when = NONE;
        Gather gather;

        Hold copy() {
            Hold h = new Hold();
            h.kind = kind;
            h.stamp = stamp;
            h.leader = leader;
            h.when = when;
            h.gather = gather == null ? null : gather.copy();
            return h;
        }
    }

    static final class Chan {
        int delay = 1;
        boolean held;
        int last;
        ArrayDeque<Packet> packets = new ArrayDeque<>();

        Chan copy() {
            Chan c = new Chan();
            c.delay = delay;
            c.held = held;
            c.last = last;
            c.packets.addAll(packets);
            return c;
        }
    }

    static final class Message {
        int sender;
        TreeSet<Integer> to;
        int cost;
        int begun;
        TreeSet<Integer> putters = new TreeSet<>();

        Message copy() {
            Message m = new Message();
            m.sender = sender;
            m.to = to;
            m.cost = cost;
            m.begun = begun;
            m.putters.addAll(putters);
            return m;
        }
    }

    static final class World {
        int nodes;
        List<TreeSet<Integer>> groups = new ArrayList<>();
        Integer[] down = new Integer[6];
        int[] clock = new int[6];
        int[] puts = new int[6];
        Chan[][] chan = new Chan[6][6];
        List<Message> messages = new ArrayList<>();
        Hold[][] hold = new Hold[6][20];
        List<List<Integer>> delivered = new ArrayList<>();
        List<Event> events = new ArrayList<>();
        List<int[]> log = new ArrayList<>();
        int texts;
        int tick;
        int jitter;
        int notice = 3;
        int seed = 1;
        int takeovers;
        boolean looking;

        World() {
            for (int i = 0; i < 6; i++) {
                delivered.add(new ArrayList<>());
                for (int j = 0; j < 6; j++) {
                    chan[i][j] = new Chan();
                }
                for (int m = 0; m < 20; m++) {
                    hold[i][m] = new Hold();
                }
            }
        }

        World copy() {
            World w = new World();
            w.nodes = nodes;
            w.groups.addAll(groups);
            w.down = down.clone();
            w.clock = clock.clone();
            w.puts = puts.clone();
            w.delivered.clear();
            for (int i = 0; i < 6; i++) {
                w.delivered.add(new ArrayList<>(delivered.get(i)));
                for (int j = 0; j < 6; j++) {
                    w.chan[i][j] = chan[i][j].copy();
                }
                for (int m = 0; m < 20; m++) {
                    w.hold[i][m] = hold[i][m].copy();
                }
            }
            for (Message m : messages) {
                w.messages.add(m.copy());
            }
            w.events.addAll(events);
            w.log.addAll(log);
            w.texts = texts;
            w.tick = tick;
            w.jitter = jitter;
            w.notice = notice;
            w.seed = seed;
            return w;
        }

        boolean up(int n) {
            return down[n] == null;
        }

        boolean noticed(int n) {
            return down[n] != null && tick >= down[n] + notice;
        }

        void log(int node, int kind, int message) {
            log.add(new int[] {tick, node, kind, message});
            if (log.size() > 60) {
                log.remove(0);
            }
        }

        int draw() {
            seed = (int) (1103515245L * seed + 12345L);
            return (seed >> 16) & 32767;
        }

        void put(int from, int to, int kind, int message, Stamp stamp, boolean fin) {
            if (noticed(to)) {
                return;
            }
            Chan c = chan[from][to];
            int time = tick + c.delay;
            if (!looking && jitter > 0) {
                time += draw() % (jitter + 1);
            }
            c.last = Math.max(time, c.last);
            c.packets.addLast(new Packet(c.last, kind, message, stamp, fin));
            Message m = messages.get(message);
            m.cost++;
            m.putters.add(from);
            puts[from]++;
        }

        boolean crash(int n) {
            if (!up(n)) {
                return false;
            }
            down[n] = tick;
            log(n, 2, NONE);
            return true;
        }

        int send(int n, int g) {
            if (!up(n) || messages.size() == 20) {
                return NONE;
            }
            Message m = new Message();
            m.sender = n;
            m.to = groups.get(g);
            m.begun = tick;
            messages.add(m);
            int id = messages.size() - 1;
            log(n, 0, id);
            hold[n][id].gather = new Gather();
            for (int to : m.to) {
                put(n, to, 0, id, null, false);
            }
            return id;
        }

        void hear(int n, int from, Packet p) {
            Hold h = hold[n][p.message];
            if (p.kind == 0 && h.kind == 0) {
                h.kind = 1;
                h.stamp = new Stamp(++clock[n], n);
                h.leader = from;
                put(n, from, 1, p.message, h.stamp, false);
            } else if (p.kind == 1 || p.kind == 4) {
                Gather g = h.gather;
                if (g != null) {
                    g.heard.add(from);
                    if (g.greatest == null || g.greatest.compareTo(p.stamp) < 0) {
                        g.greatest = p.stamp;
                    }
                    if (p.fin && (g.greatestFinal == null || g.greatestFinal.compareTo(p.stamp) < 0)) {
                        g.greatestFinal = p.stamp;
                    }
                }
            } else if (p.kind == 2) {
                if (clock[n] < p.stamp.number) {
                    clock[n] = p.stamp.number;
                }
                if (h.kind == 0) {
                    h.kind = 2;
                    h.stamp = p.stamp;
                    h.leader = from;
                } else if (h.kind == 1 && h.leader == from) {
                    h.kind = 2;
                    h.stamp = p.stamp;
                }
            } else if (p.kind == 3) {
                if (h.kind == 0) {
                    h.kind = 1;
                    h.stamp = new Stamp(++clock[n], n);
                }
                h.leader = from;
                put(n, from, 4, p.message, h.stamp, h.kind >= 2);
            }
        }

        void lead(int n, int id) {
            Hold h = hold[n][id];
            Message m = messages.get(id);
            if (h.kind != 0 && noticed(h.leader) && h.gather == null) {
                TreeSet<Integer> left = new TreeSet<>(m.to);
                left.removeIf(this::noticed);
                if (!left.isEmpty() && left.first() == n) {
                    h.gather = new Gather();
                    takeovers++;
                    log(n, 3, id);
                    for (int to : m.to) {
                        put(n, to, 3, id, null, false);
                    }
                }
            }
            if (h.gather == null) {
                return;
            }
            for (int to : m.to) {
                if (!h.gather.heard.contains(to) && !noticed(to)) {
                    return;
                }
            }
            Gather g = h.gather;
            h.gather = null;
            if (g.heard.isEmpty()) {
                return;
            }
            Stamp s = g.greatestFinal != null ? g.greatestFinal : g.greatest;
            for (int to : m.to) {
                put(n, to, 2, id, s, false);
            }
        }

        int least(int n) {
            int found = NONE;
            for (int id = 0; id < messages.size(); id++) {
                Hold h = hold[n][id];
                if ((h.kind == 1 || h.kind == 2) && (found == NONE || h.stamp.compareTo(hold[n][found].stamp) < 0)) {
                    found = id;
                }
            }
            return found;
        }

        int tick() {
            int done = 0;
            if (!looking) {
                List<Event> now = new ArrayList<>(events);
                now.removeIf(e -> e.time > tick);
                events.removeIf(e -> e.time <= tick);
                for (Event e : now) {
                    if (e.crash) {
                        crash(e.node);
                    } else {
                        send(e.node, e.group);
                    }
                }
            }
            for (int n = 0; n < nodes; n++) {
                if (!up(n)) {
                    continue;
                }
                for (int from = 0; from < nodes; from++) {
                    Chan c = chan[from][n];
                    while (!c.held && !c.packets.isEmpty() && c.packets.peekFirst().time <= tick) {
                        hear(n, from, c.packets.removeFirst());
                    }
                }
            }
            for (int n = 0; n < nodes; n++) {
                for (int id = 0; id < messages.size(); id++) {
                    if (up(n)) {
                        lead(n, id);
                    }
                }
            }
            for (int n = 0; n < nodes; n++) {
                while (up(n) && least(n) != NONE && hold[n][least(n)].kind == 2) {
                    int id = least(n);
                    hold[n][id].kind = 3;
                    hold[n][id].when = tick;
                    delivered.get(n).add(id);
                    log(n, 1, id);
                    done++;
                }
            }
            for (int n = 0; n < nodes; n++) {
                for (int from = 0; from < nodes; from++) {
                    if (!up(n)) {
                        chan[from][n].packets.clear();
                    }
                }
            }
            tick++;
            return done;
        }
    }

    World w = new World();
    World kept;
    byte[] tape = new byte[0];
    int fault = NONE;

    World look(int ticks, int crashed) {
        World a = w.copy();
        a.looking = true;
        if (crashed != NONE) {
            a.crash(crashed);
        }
        for (int i = 0; i < ticks; i++) {
            a.tick();
        }
        return a;
    }

    void n(int node) {
        if (node < 0 || node >= w.nodes) {
            throw new IndexOutOfBoundsException();
        }
    }

    void g(int group) {
        if (group < 0 || group >= w.groups.size()) {
            throw new IndexOutOfBoundsException();
        }
    }

    void m(int message) {
        if (message < 0 || message >= w.messages.size()) {
            throw new IndexOutOfBoundsException();
        }
    }

    static void two(int a, int b) {
        if (a == b) {
            throw new IllegalArgumentException();
        }
    }

    static int bits(Iterable<Integer> set) {
        int b = 0;
        for (int i : set) {
            b |= 1 << i;
        }
        return b;
    }

    public int feed(int a, int b, int c, int d, int e) {
        if (tape.length > 380) {
            return NONE;
        }
        java.nio.ByteBuffer all = java.nio.ByteBuffer.allocate(tape.length + 20);
        all.put(tape).putInt(a).putInt(b).putInt(c).putInt(d).putInt(e);
        tape = all.array();
        return tape.length;
    }

    public boolean end(int n) {
        if (n < 0 || n > tape.length) {
            return false;
        }
        tape = Arrays.copyOf(tape, n);
        return true;
    }

    public int net() {
        World told = w.copy();
        int wrong = new ModelText(tape, told).read();
        tape = new byte[0];
        fault = wrong;
        if (wrong != NONE) {
            throw new IllegalArgumentException();
        }
        if (w.texts == 12) {
            throw new UnsupportedOperationException();
        }
        w = told;
        return ++w.texts;
    }

    public int fault() {
        return fault;
    }

    public int node(int node, int what) {
        n(node);
        int open = 0;
        for (Hold h : w.hold[node]) {
            open += h.kind == 1 || h.kind == 2 ? 1 : 0;
        }
        int[] answers = {w.up(node) ? 1 : 0, w.clock[node], open, w.delivered.get(node).size(), w.puts[node],
            w.noticed(node) ? 1 : 0};
        return pick(answers, what);
    }

    static int pick(int[] answers, int what) {
        if (what < 0 || what >= answers.length) {
            throw new NoSuchElementException();
        }
        return answers[what];
    }

    public int group(int group) {
        g(group);
        return bits(w.groups.get(group));
    }

    public int message(int message, int what) {
        m(message);
        Message x = w.messages.get(message);
        int gatherers = 0;
        for (int i = 0; i < w.nodes; i++) {
            gatherers |= w.hold[i][message].gather != null ? 1 << i : 0;
        }
        return pick(new int[] {x.sender, bits(x.to), x.cost, doneBy(w, message), gatherers}, what);
    }

    static int doneBy(World a, int message) {
        int b = 0;
        for (int i = 0; i < a.nodes; i++) {
            b |= a.delivered.get(i).contains(message) ? 1 << i : 0;
        }
        return b;
    }

    public int has(int node, int message, int what) {
        n(node);
        m(message);
        Hold h = w.hold[node][message];
        return pick(h.kind == 0 ? new int[] {0, NONE, NONE, NONE}
            : new int[] {h.kind, h.stamp.number, h.stamp.node, h.leader}, what);
    }

    public int delivered(int node, int k) {
        n(node);
        return at(w.delivered.get(node), k);
    }

    static int at(List<Integer> list, int k) {
        return k >= 0 && k < list.size() ? list.get(k) : NONE;
    }

    public int channel(int from, int to, int what) {
        n(from);
        n(to);
        Chan c = w.chan[from][to];
        return pick(new int[] {c.delay, c.held ? 1 : 0, c.packets.size(), c.last}, what);
    }

    public int packet(int from, int to, int k, int what) {
        n(from);
        n(to);
        List<Packet> all = new ArrayList<>(w.chan[from][to].packets);
        if (k < 0 || k >= all.size()) {
            throw new IndexOutOfBoundsException();
        }
        Packet p = all.get(k);
        return pick(new int[] {p.time, p.kind, p.message, p.stamp == null ? NONE : p.stamp.number,
            p.stamp == null ? NONE : p.stamp.node}, what);
    }

    public int gather(int node, int message, int what) {
        n(node);
        m(message);
        Gather g = w.hold[node][message].gather;
        if (g == null) {
            throw new IllegalStateException();
        }
        return pick(new int[] {bits(g.heard), g.greatest == null ? NONE : g.greatest.number,
            g.greatest == null ? NONE : g.greatest.node, g.greatestFinal == null ? NONE : g.greatestFinal.number}, what);
    }

    public int ticks(int n) {
        if (n < 1 || n > 60) {
            throw new IllegalArgumentException();
        }
        int done = 0;
        for (int i = 0; i < n; i++) {
            done += w.tick();
        }
        return done;
    }

    public int send(int node, int group) {
        n(node);
        g(group);
        int id = w.send(node, group);
        if (id == NONE) {
            throw new IllegalStateException();
        }
        return id;
    }

    public void crash(int node) {
        n(node);
        if (!w.crash(node)) {
            throw new IllegalStateException();
        }
    }

    public boolean hold(int from, int to, boolean is) {
        n(from);
        n(to);
        boolean was = w.chan[from][to].held;
        w.chan[from][to].held = is;
        return was != is;
    }

    public int due(int node, int message) {
        n(node);
        m(message);
        World a = look(0, NONE);
        for (int n = 0; n <= 120; n++) {
            if (a.hold[node][message].kind == 3) {
                return n;
            }
            a.tick();
        }
        return NONE;
    }

    public int block(int node, int message) {
        n(node);
        m(message);
        Hold own = w.hold[node][message];
        if (own.kind != 1 && own.kind != 2) {
            return NONE;
        }
        int found = NONE;
        for (int id = 0; id < w.messages.size(); id++) {
            Hold h = w.hold[node][id];
            if (h.kind != 1) {
                continue;
            }
            int c = h.stamp.compareTo(own.stamp);
            boolean fits = id == message || c < 0 || c == 0 && id < message;
            if (fits && (found == NONE || h.stamp.compareTo(w.hold[node][found].stamp) < 0)) {
                found = id;
            }
        }
        return found;
    }

    public int waits(int message) {
        m(message);
        TreeSet<Integer> all = new TreeSet<>();
        boolean some = false;
        for (int n = 0; n < w.nodes; n++) {
            Gather g = w.hold[n][message].gather;
            if (g != null && w.up(n)) {
                some = true;
                for (int to : w.messages.get(message).to) {
                    if (!g.heard.contains(to) && !w.noticed(to)) {
                        all.add(to);
                    }
                }
            }
        }
        return some ? bits(all) : NONE;
    }

    boolean reaches(int from, int goal, TreeSet<Integer> been) {
        for (List<Integer> one : w.delivered) {
            int i = one.indexOf(from);
            for (int j = i + 1; i >= 0 && j < one.size(); j++) {
                int next = one.get(j);
                if (next == goal || been.add(next) && reaches(next, goal, been)) {
                    return true;
                }
            }
        }
        return false;
    }

    public boolean ahead(int message, int other) {
        m(message);
        m(other);
        two(message, other);
        return reaches(message, other, new TreeSet<>());
    }

    public int line(int k) {
        TreeSet<Integer> left = new TreeSet<>();
        for (List<Integer> one : w.delivered) {
            left.addAll(one);
        }
        List<Integer> line = new ArrayList<>();
        while (!left.isEmpty()) {
            int chosen = left.first();
            for (int id : left) {
                boolean free = true;
                for (int other : left) {
                    free &= other == id || !ahead(other, id);
                }
                if (free) {
                    chosen = id;
                    break;
                }
            }
            left.remove(chosen);
            line.add(chosen);
        }
        return at(line, k);
    }

    public int after(int node, int message) {
        n(node);
        m(message);
        World a = look(120, node);
        int b = 0;
        for (int to : a.messages.get(message).to) {
            b |= a.up(to) && a.hold[to][message].kind == 3 ? 1 << to : 0;
        }
        return b;
    }

    public int outside(int message) {
        m(message);
        Message x = w.messages.get(message);
        TreeSet<Integer> s = new TreeSet<>(x.putters);
        s.removeAll(x.to);
        s.remove(x.sender);
        return bits(s);
    }

    public int parted(int node, int other) {
        n(node);
        n(other);
        two(node, other);
        List<Integer> a = new ArrayList<>(w.delivered.get(node));
        List<Integer> b = new ArrayList<>(w.delivered.get(other));
        a.retainAll(b);
        int pairs = 0;
        for (int x : a) {
            for (int y : a) {
                pairs += x < y && (a.indexOf(x) < a.indexOf(y)) != (b.indexOf(x) < b.indexOf(y)) ? 1 : 0;
            }
        }
        return pairs;
    }

    public int when(int node, int message) {
        n(node);
        m(message);
        return w.hold[node][message].when;
    }

    public int chain(int node, int message, int k) {
        n(node);
        m(message);
        List<Integer> chain = new ArrayList<>(List.of(message));
        int next = block(node, message);
        while (next != NONE && !chain.contains(next)) {
            chain.add(next);
            int waits = waits(next);
            next = block(waits > 0 ? Integer.numberOfTrailingZeros(waits) : node, next);
        }
        chain.remove(0);
        return at(chain, k);
    }

    public int late(int message) {
        m(message);
        int late = NONE;
        for (int n = 0; n < w.nodes; n++) {
            Hold h = w.hold[n][message];
            if (h.kind == 3) {
                late = Math.max(late, h.when - w.messages.get(message).begun);
            } else if (w.up(n) && w.messages.get(message).to.contains(n)) {
                return NONE;
            }
        }
        return late;
    }

    public int slowest() {
        int found = NONE;
        for (int id = 0; id < w.messages.size(); id++) {
            if (late(id) != NONE && (found == NONE || late(id) > late(found))) {
                found = id;
            }
        }
        return found;
    }

    public int first(int message, int other) {
        m(message);
        m(other);
        two(message, other);
        for (List<Integer> one : look(120, NONE).delivered) {
            if (one.contains(message) && one.contains(other)) {
                return one.indexOf(message) < one.indexOf(other) ? message : other;
            }
        }
        return NONE;
    }

    public int lag(int node) {
        n(node);
        int b = 0;
        for (int id = 0; id < w.messages.size(); id++) {
            b |= w.messages.get(id).to.contains(node) && w.hold[node][id].kind != 3 ? 1 << id : 0;
        }
        return b;
    }

    public int takes(int node) {
        n(node);
        return look(120, node).takeovers;
    }

    public int knot(int group, int other) {
        g(group);
        g(other);
        two(group, other);
        TreeSet<Integer> s = new TreeSet<>(w.groups.get(group));
        s.retainAll(w.groups.get(other));
        return bits(s);
    }

    public int ring() {
        int n = w.groups.size();
        for (int a = 0; a < n; a++) {
            for (int b = a + 1; b < n; b++) {
                for (int c = b + 1; c < n; c++) {
                    if (knot(a, b) != 0 && knot(b, c) != 0 && knot(a, c) != 0 && (knot(a, b) & group(c)) == 0) {
                        return 1 << a | 1 << b | 1 << c;
                    }
                }
            }
        }
        return NONE;
    }

    public int spared(int message) {
        m(message);
        return 3 * w.messages.get(message).to.size() - w.messages.get(message).cost;
    }

    public int those(int node, int what) {
        n(node);
        if (what < 1 || what > 3) {
            throw new NoSuchElementException();
        }
        int b = 0;
        for (int id = 0; id < w.messages.size(); id++) {
            b |= w.hold[node][id].kind == what ? 1 << id : 0;
        }
        return b;
    }

    public int event(int k, int what) {
        if (k < 0 || k >= w.events.size()) {
            throw new IndexOutOfBoundsException();
        }
        Event e = w.events.get(k);
        return pick(new int[] {e.time, e.crash ? 1 : 0, e.node, e.group}, what);
    }

    public int log(int ago, int what) {
        if (what < 0 || what > 3) {
            throw new NoSuchElementException();
        }
        return ago < 0 || ago >= w.log.size() ? NONE : w.log.get(w.log.size() - 1 - ago)[what];
    }

    public int seed(int n) {
        int was = w.seed;
        w.seed = n;
        return was;
    }

    public void image() {
        kept = w.copy();
    }

    public boolean back() {
        if (kept != null) {
            w = kept.copy();
        }
        return kept != null;
    }

    public int count(int what) {
        int packets = 0;
        for (Chan[] row : w.chan) {
            for (Chan c : row) {
                packets += c.packets.size();
            }
        }
        int[] answers = {w.nodes, w.groups.size(), w.texts, w.messages.size(), w.tick, w.jitter, w.notice,
            w.events.size(), packets, w.log.size()};
        return what < 0 || what >= answers.length ? NONE : answers[what];
    }
}
