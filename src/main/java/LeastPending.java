import java.util.Arrays;
import java.util.NoSuchElementException;

/** Messages to groups that overlap, in one order for all; ../shared/DOC.md says what each call promises. */
public final class LeastPending {
    public static final int NONE = -1;

    private static final int NODES = 6;
    private static final int GROUPS = 6;
    private static final int MESSAGES = 20;
    private static final int EVENTS = 8;
    private static final int TEXTS = 12;
    private static final int LINES = 14;
    private static final int BYTES = 400;
    private static final int FED = 20;
    private static final int LOG_ROWS = 60;
    private static final int MOST_TICKS = 60;
    private static final int FAR = 120;

    private static final int REQUEST = 0;
    private static final int PROPOSAL = 1;
    private static final int FINAL_STAMP = 2;
    private static final int TAKE = 3;
    private static final int STATE = 4;

    private static final int NOTHING = 0;
    private static final int PROPOSED = 1;
    private static final int FINAL = 2;
    private static final int DELIVERED = 3;

    private static final int LOG_SENT = 0;
    private static final int LOG_DELIVERED = 1;
    private static final int LOG_DOWN = 2;
    private static final int LOG_TAKEN = 3;

    private final Tape tape;
    private final Reader reader;
    private final Order order;
    private final Net kept;
    private Net now;
    private Net trial;
    private boolean isKept;
    private int wrongByte;

    public LeastPending() {
        tape = new Tape();
        reader = new Reader(tape);
        order = new Order();
        now = new Net();
        trial = new Net();
        kept = new Net();
        isKept = false;
        wrongByte = NONE;
    }

    public int feed(int a, int b, int c, int d, int e) {
        if (tape.length + FED > BYTES) {
            return NONE;
        }
        tape.add(a);
        tape.add(b);
        tape.add(c);
        tape.add(d);
        tape.add(e);
        return tape.length;
    }

    public boolean end(int n) {
        if (n < 0 || n > tape.length) {
            return false;
        }
        tape.length = n;
        return true;
    }

    public int net() throws IllegalArgumentException, UnsupportedOperationException {
        // told to a copy, so that nothing of a wrong text stays
        trial.copyFrom(now);
        wrongByte = reader.tell(trial);
        tape.length = 0;
        if (wrongByte != NONE) {
            throw new IllegalArgumentException("the text is wrong");
        }
        if (now.textCount >= TEXTS) {
            throw new UnsupportedOperationException("there are all texts");
        }
        Net told = trial;
        trial = now;
        now = told;
        now.textCount++;
        return now.textCount;
    }

    public int fault() {
        return wrongByte;
    }

    public int node(int node, int what) throws IndexOutOfBoundsException, NoSuchElementException {
        needNode(node);
        switch (what) {
            case 0:
                return now.isUp(node) ? 1 : 0;
            case 1:
                return now.clock[node];
            case 2:
                return Integer.bitCount(now.messagesAt(node, PROPOSED) | now.messagesAt(node, FINAL));
            case 3:
                return now.holdings.handedOut[node];
            case 4:
                return now.puts[node];
            case 5:
                return now.isNoticed(node) ? 1 : 0;
            default:
                throw new NoSuchElementException("no such what of a NODE");
        }
    }

    public int group(int group) throws IndexOutOfBoundsException {
        needGroup(group);
        return now.groups[group];
    }

    public int message(int message, int what) throws IndexOutOfBoundsException, NoSuchElementException {
        needMessage(message);
        switch (what) {
            case 0:
                return now.mail.sender[message];
            case 1:
                return now.mail.to[message];
            case 2:
                return now.mail.cost[message];
            case 3:
                return Asked.deliveredBy(now, message);
            case 4:
                return Asked.gatherers(now, message);
            default:
                throw new NoSuchElementException("no such what of a MESSAGE");
        }
    }

    public int has(int node, int message, int what) throws IndexOutOfBoundsException, NoSuchElementException {
        needNode(node);
        needMessage(message);
        needWhat(what, 0, 3);
        int at = spotOf(node, message);
        int kind = now.holdings.kind[at];
        if (what == 0) {
            return kind;
        }
        if (kind == NOTHING) {
            return NONE;
        }
        if (what == 3) {
            return now.holdings.leader[at];
        }
        int stamp = now.holdings.stamp[at];
        return what == 1 ? numberOf(stamp) : nodeOf(stamp);
    }

    public int delivered(int node, int k) throws IndexOutOfBoundsException {
        needNode(node);
        if (k < 0 || k >= now.holdings.handedOut[node]) {
            return NONE;
        }
        return now.holdings.order[spotOf(node, k)];
    }

    public int channel(int from, int to, int what) throws IndexOutOfBoundsException, NoSuchElementException {
        needNode(from);
        needNode(to);
        int channel = channelOf(from, to);
        switch (what) {
            case 0:
                return now.channels.delay[channel];
            case 1:
                return now.channels.held[channel];
            case 2:
                return now.channels.size[channel];
            case 3:
                return now.channels.last[channel];
            default:
                throw new NoSuchElementException("no such what of a CHANNEL");
        }
    }

    public int packet(int from, int to, int k, int what) throws IndexOutOfBoundsException, NoSuchElementException {
        needNode(from);
        needNode(to);
        int channel = channelOf(from, to);
        if (k < 0 || k >= now.channels.size[channel]) {
            throw new IndexOutOfBoundsException("no such PACKET");
        }
        int cell = now.channels.cellAt(channel, k);
        switch (what) {
            case 0:
                return now.channels.pool[cell + Channels.TIME];
            case 1:
                return now.channels.pool[cell + Channels.KIND];
            case 2:
                return now.channels.pool[cell + Channels.MESSAGE];
            case 3:
                return numberOf(now.channels.pool[cell + Channels.STAMP]);
            case 4:
                return nodeOf(now.channels.pool[cell + Channels.STAMP]);
            default:
                throw new NoSuchElementException("no such what of a PACKET");
        }
    }

    public int gather(int node, int message, int what)
            throws IndexOutOfBoundsException, IllegalStateException, NoSuchElementException {
        needNode(node);
        needMessage(message);
        int at = spotOf(node, message);
        if (!now.gathers.isOn(at)) {
            throw new IllegalStateException("the NODE does not GATHER for it");
        }
        switch (what) {
            case 0:
                return now.gathers.heard[at];
            case 1:
                return numberOf(now.gathers.greatest[at]);
            case 2:
                return nodeOf(now.gathers.greatest[at]);
            case 3:
                return numberOf(now.gathers.greatestFinal[at]);
            default:
                throw new NoSuchElementException("no such what of a GATHER");
        }
    }

    public int ticks(int n) throws IllegalArgumentException {
        if (n < 1 || n > MOST_TICKS) {
            throw new IllegalArgumentException("so many TICKS are none");
        }
        int handedOut = 0;
        for (int k = 0; k < n; k++) {
            handedOut += now.pass();
        }
        return handedOut;
    }

    public int send(int node, int group) throws IndexOutOfBoundsException, IllegalStateException {
        needNode(node);
        needGroup(group);
        if (!now.canStart(node)) {
            throw new IllegalStateException("the NODE is DOWN, or there are all MESSAGES");
        }
        return now.start(node, group);
    }

    public void crash(int node) throws IndexOutOfBoundsException, IllegalStateException {
        needNode(node);
        if (!now.isUp(node)) {
            throw new IllegalStateException("the NODE is DOWN");
        }
        now.goDown(node);
    }

    public boolean hold(int from, int to, boolean is) throws IndexOutOfBoundsException {
        needNode(from);
        needNode(to);
        int channel = channelOf(from, to);
        int held = is ? 1 : 0;
        boolean changed = now.channels.held[channel] != held;
        now.channels.held[channel] = held;
        return changed;
    }

    public int due(int node, int message) throws IndexOutOfBoundsException {
        needNode(node);
        needMessage(message);
        int at = spotOf(node, message);
        trial.lookFrom(now);
        boolean goesOn = true;
        for (int n = 0; n <= FAR; n++) {
            if (trial.holdings.kind[at] == DELIVERED) {
                return n;
            }
            if (!goesOn) {
                return NONE;
            }
            goesOn = trial.canStir();
            trial.passOn();
            goesOn = goesOn || trial.stirred;
        }
        return NONE;
    }

    public int block(int node, int message) throws IndexOutOfBoundsException {
        needNode(node);
        needMessage(message);
        return Asked.blockOf(now, node, message);
    }

    public int waits(int message) throws IndexOutOfBoundsException {
        needMessage(message);
        return Asked.waitsOf(now, message);
    }

    public boolean ahead(int message, int other) throws IndexOutOfBoundsException, IllegalArgumentException {
        needMessage(message);
        needMessage(other);
        needTwo(message, other);
        order.read(now);
        return order.isAhead(message, other);
    }

    public int line(int k) {
        order.read(now);
        return order.placed(k);
    }

    public int after(int node, int message) throws IndexOutOfBoundsException {
        needNode(node);
        needMessage(message);
        trial.lookFrom(now);
        trial.goDown(node);
        trial.passFar();
        return Asked.deliveredBy(trial, message) & trial.mail.to[message] & trial.upNodes();
    }

    public int outside(int message) throws IndexOutOfBoundsException {
        needMessage(message);
        int own = now.mail.to[message] | (1 << now.mail.sender[message]);
        return now.mail.putters[message] & ~own;
    }

    public int parted(int node, int other) throws IndexOutOfBoundsException, IllegalArgumentException {
        needNode(node);
        needNode(other);
        needTwo(node, other);
        return Asked.partedPairs(now, node, other);
    }

    public int when(int node, int message) throws IndexOutOfBoundsException {
        needNode(node);
        needMessage(message);
        int at = spotOf(node, message);
        return now.holdings.kind[at] == DELIVERED ? now.holdings.when[at] : NONE;
    }

    public int chain(int node, int message, int k) throws IndexOutOfBoundsException {
        needNode(node);
        needMessage(message);
        return Asked.chainAt(now, node, message, k);
    }

    public int late(int message) throws IndexOutOfBoundsException {
        needMessage(message);
        return Asked.lateOf(now, message);
    }

    public int slowest() {
        int found = NONE;
        int most = NONE;
        for (int message = 0; message < now.mail.total; message++) {
            int late = Asked.lateOf(now, message);
            if (late > most) {
                most = late;
                found = message;
            }
        }
        return found;
    }

    public int first(int message, int other) throws IndexOutOfBoundsException, IllegalArgumentException {
        needMessage(message);
        needMessage(other);
        needTwo(message, other);
        trial.lookFrom(now);
        trial.passFar();
        return Asked.firstOf(trial, message, other);
    }

    public int lag(int node) throws IndexOutOfBoundsException {
        needNode(node);
        return now.mail.addressedTo(node) & ~now.messagesAt(node, DELIVERED);
    }

    public int takes(int node) throws IndexOutOfBoundsException {
        needNode(node);
        trial.lookFrom(now);
        trial.goDown(node);
        trial.passFar();
        return trial.takeovers;
    }

    public int knot(int group, int other) throws IndexOutOfBoundsException, IllegalArgumentException {
        needGroup(group);
        needGroup(other);
        needTwo(group, other);
        return now.groups[group] & now.groups[other];
    }

    public int ring() {
        return Asked.ringOf(now);
    }

    public int spared(int message) throws IndexOutOfBoundsException {
        needMessage(message);
        return 3 * Integer.bitCount(now.mail.to[message]) - now.mail.cost[message];
    }

    public int those(int node, int what) throws IndexOutOfBoundsException, NoSuchElementException {
        needNode(node);
        needWhat(what, PROPOSED, DELIVERED);
        return now.messagesAt(node, what);
    }

    public int event(int k, int what) throws IndexOutOfBoundsException, NoSuchElementException {
        if (k < 0 || k >= now.events.waiting) {
            throw new IndexOutOfBoundsException("no such EVENT");
        }
        switch (what) {
            case 0:
                return now.events.time[k];
            case 1:
                return now.events.isCrash(k) ? 1 : 0;
            case 2:
                return now.events.who[k];
            case 3:
                return now.events.toGroup[k];
            default:
                throw new NoSuchElementException("no such what of an EVENT");
        }
    }

    public int log(int ago, int what) throws NoSuchElementException {
        needWhat(what, 0, 3);
        if (ago < 0 || ago >= now.log.stored) {
            return NONE;
        }
        return now.log.cell(ago, what);
    }

    public int seed(int n) {
        int was = now.seed;
        now.seed = n;
        return was;
    }

    public void image() {
        kept.copyFrom(now);
        isKept = true;
    }

    public boolean back() {
        if (isKept) {
            now.copyFrom(kept);
        }
        return isKept;
    }

    public int count(int what) {
        switch (what) {
            case 0:
                return now.nodeCount;
            case 1:
                return now.groupCount;
            case 2:
                return now.textCount;
            case 3:
                return now.mail.total;
            case 4:
                return now.tick;
            case 5:
                return now.jitter;
            case 6:
                return now.notice;
            case 7:
                return now.events.waiting;
            case 8:
                return now.channels.sizeOfAll();
            case 9:
                return now.log.stored;
            default:
                return NONE;
        }
    }

    private void needNode(int node) {
        if (node < 0 || node >= now.nodeCount) {
            throw new IndexOutOfBoundsException("no such NODE");
        }
    }

    private void needGroup(int group) {
        if (group < 0 || group >= now.groupCount) {
            throw new IndexOutOfBoundsException("no such GROUP");
        }
    }

    private void needMessage(int message) {
        if (message < 0 || message >= now.mail.total) {
            throw new IndexOutOfBoundsException("no such MESSAGE");
        }
    }

    private static void needTwo(int one, int other) {
        if (one == other) {
            throw new IllegalArgumentException("both are one");
        }
    }

    private static void needWhat(int what, int least, int most) {
        if (what < least || what > most) {
            throw new NoSuchElementException("no such what");
        }
    }

    private static int spotOf(int node, int message) {
        return node * MESSAGES + message;
    }

    private static int channelOf(int from, int to) {
        return from * NODES + to;
    }

    /** A STAMP as one number, so that a lesser STAMP is a lesser number. */
    private static int stampOf(int number, int node) {
        return number << 3 | node;
    }

    private static int numberOf(int stamp) {
        return stamp == NONE ? NONE : stamp >> 3;
    }

    private static int nodeOf(int stamp) {
        return stamp == NONE ? NONE : stamp & 7;
    }

    private static boolean isIn(int set, int one) {
        return (set >> one & 1) != 0;
    }

    private static void copyRow(int[] from, int[] to) {
        System.arraycopy(from, 0, to, 0, Math.min(from.length, to.length));
    }

    /** The bytes of a text that is still to be read. */
    private static final class Tape {
        final byte[] bytes;
        int length;

        Tape() {
            bytes = new byte[BYTES];
            length = 0;
        }

        void add(int number) {
            for (int shift = 24; shift >= 0 && length < BYTES; shift -= 8) {
                bytes[length] = (byte) (number >> shift);
                length++;
            }
        }
    }

    /** Reads a text of THE NET. */
    private static final class Reader {
        private static final int DIGITS = 3;
        private static final int MOST_TIME = 999;
        private static final int MOST_DELAY = 9;
        private static final int MOST_JITTER = 5;
        private static final int MOST_NOTICE = 20;

        private final Tape tape;
        private int at;
        private int wrongAt;
        private int numberAt;

        Reader(Tape tape) {
            this.tape = tape;
            at = 0;
            wrongAt = NONE;
            numberAt = 0;
        }

        /** NONE, or the first wrong byte: the net has then been told a part. */
        int tell(Net net) {
            at = 0;
            wrongAt = NONE;
            skipBlanks();
            if (at >= tape.length) {
                return NONE;
            }
            for (int lines = 0; lines <= LINES; lines++) {
                skipBlanks();
                tellLine(net, lines);
                if (wrongAt != NONE) {
                    return wrongAt;
                }
                skipBlanks();
                if (at >= tape.length) {
                    return NONE;
                }
                if (tape.bytes[at] != ';') {
                    return at;
                }
                at++;
            }
            return at;
        }

        private void tellLine(Net net, int lines) {
            int from = at;
            skipWord();
            if (lines >= LINES) {
                wrongAt = from;
            } else if (isWord(from, "nodes")) {
                tellNodes(net, from, lines);
            } else if (isWord(from, "group")) {
                tellGroup(net, from);
            } else if (isWord(from, "delay")) {
                tellDelay(net);
            } else if (isWord(from, "jitter")) {
                net.jitter = readNumber(0, MOST_JITTER);
            } else if (isWord(from, "notice")) {
                net.notice = readNumber(0, MOST_NOTICE);
            } else if (isWord(from, "at")) {
                tellEvent(net, from);
            } else {
                wrongAt = from;
            }
        }

        private void tellNodes(Net net, int from, int lines) {
            if (lines > 0 || net.nodeCount > 0) {
                wrongAt = from;
                return;
            }
            int nodes = readNumber(1, NODES);
            if (nodes != NONE) {
                net.nodeCount = nodes;
            }
        }

        private void tellGroup(Net net, int from) {
            if (net.groupCount >= GROUPS) {
                wrongAt = from;
                return;
            }
            int set = 0;
            boolean more = true;
            // one NODE more than there can be is wrong in any case
            for (int k = 0; k <= NODES && more; k++) {
                int node = readNumber(0, net.nodeCount - 1);
                if (node == NONE) {
                    return;
                }
                if (isIn(set, node)) {
                    wrongAt = numberAt;
                    return;
                }
                set |= 1 << node;
                skipBlanks();
                more = isDigit();
            }
            net.groups[net.groupCount] = set;
            net.groupCount++;
        }

        private void tellDelay(Net net) {
            int from = readNumber(0, net.nodeCount - 1);
            int to = readNumber(0, net.nodeCount - 1);
            int delay = readNumber(1, MOST_DELAY);
            if (delay != NONE) {
                net.channels.delay[channelOf(from, to)] = delay;
            }
        }

        private void tellEvent(Net net, int from) {
            if (net.events.waiting >= EVENTS) {
                wrongAt = from;
                return;
            }
            int time = readNumber(net.tick, MOST_TIME);
            if (time == NONE) {
                return;
            }
            skipBlanks();
            int wordAt = at;
            skipWord();
            boolean isSend = isWord(wordAt, "send");
            if (!isSend && !isWord(wordAt, "crash")) {
                wrongAt = wordAt;
                return;
            }
            int node = readNumber(0, net.nodeCount - 1);
            int group = isSend ? readNumber(0, net.groupCount - 1) : NONE;
            if (wrongAt == NONE) {
                net.events.add(time, node, group);
            }
        }

        /** NONE behind a wrong byte: a LINE may read on without looking at each number. */
        private int readNumber(int least, int most) {
            if (wrongAt != NONE) {
                return NONE;
            }
            skipBlanks();
            numberAt = at;
            int value = 0;
            while (at < tape.length && isDigit()) {
                if (at - numberAt < DIGITS) {
                    value = value * 10 + (tape.bytes[at] - '0');
                }
                at++;
            }
            int digits = at - numberAt;
            if (digits < 1 || digits > DIGITS || value < least || value > most) {
                wrongAt = numberAt;
                return NONE;
            }
            return value;
        }

        private void skipBlanks() {
            while (at < tape.length && tape.bytes[at] == ' ') {
                at++;
            }
        }

        private void skipWord() {
            while (at < tape.length && tape.bytes[at] >= 'a' && tape.bytes[at] <= 'z') {
                at++;
            }
        }

        private boolean isDigit() {
            return at < tape.length && tape.bytes[at] >= '0' && tape.bytes[at] <= '9';
        }

        /** Whether the word that has just been skipped is this one. */
        private boolean isWord(int from, String word) {
            if (at - from != word.length()) {
                return false;
            }
            for (int k = 0; k < word.length(); k++) {
                if (tape.bytes[from + k] != word.charAt(k)) {
                    return false;
                }
            }
            return true;
        }
    }

    /** All that THE IMAGE keeps, and what happens to it in a TICK. */
    private static final class Net {
        int nodeCount;
        int groupCount;
        int textCount;
        int tick;
        int jitter;
        int notice;
        int seed;
        int takeovers;
        boolean stirred;
        final int[] groups;
        final int[] downSince;
        final int[] clock;
        final int[] puts;
        final Channels channels;
        final Mail mail;
        final Holdings holdings;
        final Gathers gathers;
        final Events events;
        final Log log;

        Net() {
            nodeCount = 0;
            groupCount = 0;
            textCount = 0;
            tick = 0;
            jitter = 0;
            notice = 3;
            seed = 1;
            takeovers = 0;
            stirred = false;
            groups = new int[GROUPS];
            downSince = new int[NODES];
            Arrays.fill(downSince, NONE);
            clock = new int[NODES];
            puts = new int[NODES];
            channels = new Channels();
            mail = new Mail();
            holdings = new Holdings();
            gathers = new Gathers();
            events = new Events();
            log = new Log();
        }

        void copyFrom(Net other) {
            nodeCount = other.nodeCount;
            groupCount = other.groupCount;
            textCount = other.textCount;
            tick = other.tick;
            jitter = other.jitter;
            notice = other.notice;
            seed = other.seed;
            takeovers = other.takeovers;
            stirred = other.stirred;
            copyRow(other.groups, groups);
            copyRow(other.downSince, downSince);
            copyRow(other.clock, clock);
            copyRow(other.puts, puts);
            channels.copyFrom(other.channels);
            mail.copyFrom(other.mail);
            holdings.copyFrom(other.holdings);
            gathers.copyFrom(other.gathers);
            events.copyFrom(other.events);
            log.copyFrom(other.log);
        }

        /** Begins AHEAD, which knows no JITTER. */
        void lookFrom(Net other) {
            copyFrom(other);
            jitter = 0;
            takeovers = 0;
        }

        void passFar() {
            boolean goesOn = true;
            for (int k = 0; k < FAR && goesOn; k++) {
                boolean could = canStir();
                passOn();
                goesOn = could || stirred;
            }
        }

        /** If not, a TICK that stirs nothing is followed by like ones alone. */
        boolean canStir() {
            for (int node = 0; node < nodeCount; node++) {
                if (isUp(node) ? channels.hasOpen(node) : !isNoticed(node)) {
                    return true;
                }
            }
            return false;
        }

        boolean isUp(int node) {
            return downSince[node] == NONE;
        }

        boolean isNoticed(int node) {
            return !isUp(node) && tick - downSince[node] >= notice;
        }

        int upNodes() {
            int set = 0;
            for (int node = 0; node < nodeCount; node++) {
                if (isUp(node)) {
                    set |= 1 << node;
                }
            }
            return set;
        }

        int noticedNodes() {
            int set = 0;
            for (int node = 0; node < nodeCount; node++) {
                if (isNoticed(node)) {
                    set |= 1 << node;
                }
            }
            return set;
        }

        int messagesAt(int node, int kind) {
            int set = 0;
            for (int message = 0; message < mail.total; message++) {
                if (holdings.kind[spotOf(node, message)] == kind) {
                    set |= 1 << message;
                }
            }
            return set;
        }

        void goDown(int node) {
            if (isUp(node)) {
                downSince[node] = tick;
                log.add(tick, node, LOG_DOWN, NONE);
            }
        }

        boolean canStart(int node) {
            return isUp(node) && mail.total < MESSAGES;
        }

        int start(int node, int group) {
            int message = mail.add(node, groups[group], tick);
            log.add(tick, node, LOG_SENT, message);
            gathers.begin(spotOf(node, message));
            putForAll(node, REQUEST, message, NONE);
            return message;
        }

        /** One TICK: how many times a MESSAGE was DELIVERED in it. */
        int pass() {
            happen();
            return passOn();
        }

        /** One TICK without its EVENTS, as AHEAD wants it. */
        int passOn() {
            stirred = false;
            hearAll();
            leadAll();
            int handedOut = handOutAll();
            dropForDown();
            tick++;
            return handedOut;
        }

        private void happen() {
            int left = 0;
            for (int k = 0; k < events.waiting; k++) {
                if (events.time[k] > tick) {
                    events.move(k, left);
                    left++;
                } else if (events.isCrash(k)) {
                    goDown(events.who[k]);
                } else if (canStart(events.who[k])) {
                    start(events.who[k], events.toGroup[k]);
                }
            }
            events.waiting = left;
        }

        private void hearAll() {
            for (int to = 0; to < nodeCount; to++) {
                for (int from = 0; from < nodeCount && isUp(to); from++) {
                    int channel = channelOf(from, to);
                    for (int left = channels.size[channel]; left > 0; left--) {
                        int cell = channels.openCell(channel, tick);
                        if (cell == NONE) {
                            break;
                        }
                        int kind = channels.pool[cell + Channels.KIND];
                        int message = channels.pool[cell + Channels.MESSAGE];
                        int stamp = channels.pool[cell + Channels.STAMP];
                        boolean settled = channels.pool[cell + Channels.SETTLED] != 0;
                        channels.dropFirst(channel);
                        hear(from, to, kind, message, stamp, settled);
                        stirred = true;
                    }
                }
            }
        }

        private void hear(int from, int node, int kind, int message, int stamp, boolean settled) {
            int at = spotOf(node, message);
            switch (kind) {
                case REQUEST:
                    if (holdings.kind[at] == NOTHING) {
                        propose(node, at);
                        holdings.leader[at] = from;
                        put(node, from, PROPOSAL, message, holdings.stamp[at], false);
                    }
                    break;
                case TAKE:
                    if (holdings.kind[at] == NOTHING) {
                        propose(node, at);
                    }
                    holdings.leader[at] = from;
                    put(node, from, STATE, message, holdings.stamp[at], holdings.kind[at] != PROPOSED);
                    break;
                case FINAL_STAMP:
                    clock[node] = Math.max(clock[node], numberOf(stamp));
                    holdings.settle(at, from, stamp);
                    break;
                default:
                    gathers.hear(at, from, stamp, settled);
            }
        }

        private void propose(int node, int at) {
            clock[node]++;
            holdings.kind[at] = PROPOSED;
            holdings.stamp[at] = stampOf(clock[node], node);
        }

        private void leadAll() {
            for (int node = 0; node < nodeCount; node++) {
                for (int message = 0; message < mail.total && isUp(node); message++) {
                    if (mustTakeOver(node, message)) {
                        takeovers++;
                        stirred = true;
                        log.add(tick, node, LOG_TAKEN, message);
                        gathers.begin(spotOf(node, message));
                        putForAll(node, TAKE, message, NONE);
                    }
                    if (isFull(node, message)) {
                        int at = spotOf(node, message);
                        int stamp = gathers.outcome(at);
                        stirred = true;
                        gathers.cease(at);
                        // without a STAMP nobody was heard of
                        if (stamp != NONE) {
                            putForAll(node, FINAL_STAMP, message, stamp);
                        }
                    }
                }
            }
        }

        private boolean mustTakeOver(int node, int message) {
            int at = spotOf(node, message);
            if (holdings.kind[at] == NOTHING || gathers.isOn(at) || !isNoticed(holdings.leader[at])) {
                return false;
            }
            int left = mail.to[message] & ~noticedNodes();
            int lesser = (1 << node) - 1;
            return isIn(left, node) && (left & lesser) == 0;
        }

        private boolean isFull(int node, int message) {
            int at = spotOf(node, message);
            return gathers.isOn(at) && (mail.to[message] & ~gathers.heard[at] & ~noticedNodes()) == 0;
        }

        private int handOutAll() {
            int handedOut = 0;
            for (int node = 0; node < nodeCount; node++) {
                for (int k = 0; k < mail.total && isUp(node); k++) {
                    int message = holdings.leastPending(node, mail.total);
                    if (message == NONE || holdings.kind[spotOf(node, message)] != FINAL) {
                        break;
                    }
                    holdings.handOut(node, message, tick);
                    log.add(tick, node, LOG_DELIVERED, message);
                    handedOut++;
                }
            }
            return handedOut;
        }

        private void dropForDown() {
            for (int to = 0; to < nodeCount; to++) {
                for (int from = 0; from < nodeCount && !isUp(to); from++) {
                    channels.dropAll(channelOf(from, to));
                }
            }
        }

        private void putForAll(int from, int kind, int message, int stamp) {
            for (int to = 0; to < nodeCount; to++) {
                if (isIn(mail.to[message], to)) {
                    put(from, to, kind, message, stamp, false);
                }
            }
        }

        private void put(int from, int to, int kind, int message, int stamp, boolean settled) {
            if (isNoticed(to)) {
                return;
            }
            int channel = channelOf(from, to);
            int time = tick + channels.delay[channel];
            if (jitter > 0) {
                time += draw() % (jitter + 1);
            }
            channels.add(channel, time, kind, message, stamp, settled ? 1 : 0);
            mail.cost[message]++;
            mail.putters[message] |= 1 << from;
            puts[from]++;
        }

        private int draw() {
            seed = 1103515245 * seed + 12345;
            return seed >>> 16 & 0x7fff;
        }
    }

    /** The CHANNELS; their PACKETS are cells of one pool, linked one behind another. */
    private static final class Channels {
        static final int TIME = 0;
        static final int KIND = 1;
        static final int MESSAGE = 2;
        static final int STAMP = 3;
        static final int SETTLED = 4;
        private static final int NEXT = 5;
        private static final int CELL = 6;
        private static final int FIRST_CELLS = 64;
        private static final int MOST_INTS = 1 << 18;

        final int[] delay;
        final int[] held;
        final int[] last;
        final int[] size;
        int[] pool;
        private final int[] head;
        private final int[] tail;
        private int used;
        private int free;

        Channels() {
            delay = new int[NODES * NODES];
            Arrays.fill(delay, 1);
            held = new int[NODES * NODES];
            last = new int[NODES * NODES];
            size = new int[NODES * NODES];
            pool = new int[FIRST_CELLS * CELL];
            head = new int[NODES * NODES];
            Arrays.fill(head, NONE);
            tail = new int[NODES * NODES];
            Arrays.fill(tail, NONE);
            used = 0;
            free = NONE;
        }

        void copyFrom(Channels other) {
            copyRow(other.delay, delay);
            copyRow(other.held, held);
            copyRow(other.last, last);
            copyRow(other.size, size);
            copyRow(other.head, head);
            copyRow(other.tail, tail);
            if (pool.length < other.used) {
                pool = new int[other.pool.length];
            }
            System.arraycopy(other.pool, 0, pool, 0, other.used);
            used = other.used;
            free = other.free;
        }

        void add(int channel, int time, int kind, int message, int stamp, int settled) {
            int cell = free;
            if (cell != NONE) {
                free = pool[cell + NEXT];
            } else {
                if (used + CELL > pool.length) {
                    // a NODE that goes DOWN stays so: what is put of 20 MESSAGES ends far below this
                    if (pool.length > MOST_INTS) {
                        return;
                    }
                    pool = Arrays.copyOf(pool, pool.length * 2);
                }
                cell = used;
                used += CELL;
            }
            last[channel] = Math.max(last[channel], time);
            pool[cell + TIME] = last[channel];
            pool[cell + KIND] = kind;
            pool[cell + MESSAGE] = message;
            pool[cell + STAMP] = stamp;
            pool[cell + SETTLED] = settled;
            pool[cell + NEXT] = NONE;
            if (tail[channel] == NONE) {
                head[channel] = cell;
            } else {
                pool[tail[channel] + NEXT] = cell;
            }
            tail[channel] = cell;
            size[channel]++;
        }

        int cellAt(int channel, int k) {
            int cell = head[channel];
            for (int passed = 0; passed < k; passed++) {
                cell = pool[cell + NEXT];
            }
            return cell;
        }

        /** The PACKET that comes next by then, or NONE. */
        int openCell(int channel, int tick) {
            int cell = head[channel];
            if (cell == NONE || held[channel] != 0 || pool[cell + TIME] > tick) {
                return NONE;
            }
            return cell;
        }

        void dropFirst(int channel) {
            int cell = head[channel];
            if (cell == NONE) {
                return;
            }
            head[channel] = pool[cell + NEXT];
            if (head[channel] == NONE) {
                tail[channel] = NONE;
            }
            pool[cell + NEXT] = free;
            free = cell;
            size[channel]--;
        }

        void dropAll(int channel) {
            for (int left = size[channel]; left > 0; left--) {
                dropFirst(channel);
            }
        }

        /** Whether a PACKET for a NODE waits where nothing is HELD. */
        boolean hasOpen(int to) {
            for (int from = 0; from < NODES; from++) {
                int channel = channelOf(from, to);
                if (size[channel] > 0 && held[channel] == 0) {
                    return true;
                }
            }
            return false;
        }

        int sizeOfAll() {
            int sum = 0;
            for (int channel = 0; channel < size.length; channel++) {
                sum += size[channel];
            }
            return sum;
        }
    }

    /** The MESSAGES. */
    private static final class Mail {
        int total;
        final int[] sender;
        final int[] to;
        final int[] cost;
        final int[] begun;
        final int[] putters;

        Mail() {
            total = 0;
            sender = new int[MESSAGES];
            to = new int[MESSAGES];
            cost = new int[MESSAGES];
            begun = new int[MESSAGES];
            putters = new int[MESSAGES];
        }

        void copyFrom(Mail other) {
            total = other.total;
            copyRow(other.sender, sender);
            copyRow(other.to, to);
            copyRow(other.cost, cost);
            copyRow(other.begun, begun);
            copyRow(other.putters, putters);
        }

        int add(int who, int set, int tick) {
            int message = total;
            sender[message] = who;
            to[message] = set;
            cost[message] = 0;
            begun[message] = tick;
            putters[message] = 0;
            total++;
            return message;
        }

        int addressedTo(int node) {
            int set = 0;
            for (int message = 0; message < total; message++) {
                if (isIn(to[message], node)) {
                    set |= 1 << message;
                }
            }
            return set;
        }
    }

    /** What each NODE has of each MESSAGE. */
    private static final class Holdings {
        final int[] kind;
        final int[] stamp;
        final int[] leader;
        final int[] when;
        final int[] order;
        final int[] handedOut;

        Holdings() {
            kind = new int[NODES * MESSAGES];
            stamp = new int[NODES * MESSAGES];
            leader = new int[NODES * MESSAGES];
            when = new int[NODES * MESSAGES];
            order = new int[NODES * MESSAGES];
            handedOut = new int[NODES];
        }

        void copyFrom(Holdings other) {
            copyRow(other.kind, kind);
            copyRow(other.stamp, stamp);
            copyRow(other.leader, leader);
            copyRow(other.when, when);
            copyRow(other.order, order);
            copyRow(other.handedOut, handedOut);
        }

        void settle(int at, int from, int finalStamp) {
            boolean isNew = kind[at] == NOTHING;
            if (isNew || kind[at] == PROPOSED && leader[at] == from) {
                kind[at] = FINAL;
                stamp[at] = finalStamp;
                leader[at] = from;
            }
        }

        boolean isPending(int at) {
            return kind[at] == PROPOSED || kind[at] == FINAL;
        }

        int leastPending(int node, int total) {
            int found = NONE;
            for (int message = 0; message < total; message++) {
                int at = spotOf(node, message);
                if (isPending(at) && (found == NONE || stamp[at] < stamp[spotOf(node, found)])) {
                    found = message;
                }
            }
            return found;
        }

        void handOut(int node, int message, int tick) {
            int at = spotOf(node, message);
            kind[at] = DELIVERED;
            when[at] = tick;
            order[spotOf(node, handedOut[node])] = message;
            handedOut[node]++;
        }

        /** Where a MESSAGE stands in what a NODE DELIVERED, or NONE. */
        int placeOf(int node, int message) {
            for (int k = 0; k < handedOut[node]; k++) {
                if (order[spotOf(node, k)] == message) {
                    return k;
                }
            }
            return NONE;
        }
    }

    /** The GATHERS; one that is none has NONE for a set. */
    private static final class Gathers {
        final int[] heard;
        final int[] greatest;
        final int[] greatestFinal;

        Gathers() {
            heard = new int[NODES * MESSAGES];
            Arrays.fill(heard, NONE);
            greatest = new int[NODES * MESSAGES];
            greatestFinal = new int[NODES * MESSAGES];
        }

        void copyFrom(Gathers other) {
            copyRow(other.heard, heard);
            copyRow(other.greatest, greatest);
            copyRow(other.greatestFinal, greatestFinal);
        }

        boolean isOn(int at) {
            return heard[at] != NONE;
        }

        void begin(int at) {
            heard[at] = 0;
            greatest[at] = NONE;
            greatestFinal[at] = NONE;
        }

        void cease(int at) {
            heard[at] = NONE;
        }

        void hear(int at, int from, int stamp, boolean settled) {
            if (!isOn(at)) {
                return;
            }
            heard[at] |= 1 << from;
            greatest[at] = Math.max(greatest[at], stamp);
            if (settled) {
                greatestFinal[at] = Math.max(greatestFinal[at], stamp);
            }
        }

        int outcome(int at) {
            return greatestFinal[at] != NONE ? greatestFinal[at] : greatest[at];
        }
    }

    /** The EVENTS that wait; a crash is one without a GROUP. */
    private static final class Events {
        int waiting;
        final int[] time;
        final int[] who;
        final int[] toGroup;

        Events() {
            waiting = 0;
            time = new int[EVENTS];
            who = new int[EVENTS];
            toGroup = new int[EVENTS];
        }

        void copyFrom(Events other) {
            waiting = other.waiting;
            copyRow(other.time, time);
            copyRow(other.who, who);
            copyRow(other.toGroup, toGroup);
        }

        boolean isCrash(int k) {
            return toGroup[k] == NONE;
        }

        void add(int at, int node, int group) {
            time[waiting] = at;
            who[waiting] = node;
            toGroup[waiting] = group;
            waiting++;
        }

        void move(int from, int to) {
            time[to] = time[from];
            who[to] = who[from];
            toGroup[to] = toGroup[from];
        }
    }

    /** THE LOG, as a round of rows. */
    private static final class Log {
        private static final int CELLS = 4;

        int stored;
        private int next;
        private final int[] cells;

        Log() {
            stored = 0;
            next = 0;
            cells = new int[LOG_ROWS * CELLS];
        }

        void copyFrom(Log other) {
            stored = other.stored;
            next = other.next;
            copyRow(other.cells, cells);
        }

        void add(int tick, int node, int kind, int message) {
            int at = next * CELLS;
            cells[at] = tick;
            cells[at + 1] = node;
            cells[at + 2] = kind;
            cells[at + 3] = message;
            next = (next + 1) % LOG_ROWS;
            stored = Math.min(stored + 1, LOG_ROWS);
        }

        int cell(int ago, int what) {
            int row = (next - 1 - ago + 2 * LOG_ROWS) % LOG_ROWS;
            return cells[row * CELLS + what];
        }
    }

    /** AHEAD OF, and LINE. */
    private static final class Order {
        private final int[] isBefore;
        private int all;

        Order() {
            isBefore = new int[MESSAGES];
            all = 0;
        }

        void read(Net net) {
            Arrays.fill(isBefore, 0);
            all = 0;
            for (int node = 0; node < net.nodeCount; node++) {
                int behind = 0;
                for (int k = net.holdings.handedOut[node] - 1; k >= 0; k--) {
                    int message = net.holdings.order[spotOf(node, k)];
                    isBefore[message] |= behind;
                    behind |= 1 << message;
                }
                all |= behind;
            }
            for (int middle = 0; middle < MESSAGES; middle++) {
                for (int message = 0; message < MESSAGES; message++) {
                    if (isIn(isBefore[message], middle)) {
                        isBefore[message] |= isBefore[middle];
                    }
                }
            }
        }

        boolean isAhead(int message, int other) {
            return isIn(isBefore[message], other);
        }

        int placed(int k) {
            int left = all;
            for (int place = 0; place < MESSAGES && left != 0; place++) {
                int message = nextOf(left);
                if (place == k) {
                    return message;
                }
                left &= ~(1 << message);
            }
            return NONE;
        }

        private int nextOf(int left) {
            int least = NONE;
            for (int message = MESSAGES - 1; message >= 0; message--) {
                if (isIn(left, message)) {
                    least = message;
                }
            }
            for (int message = 0; message < MESSAGES; message++) {
                if (isIn(left, message) && !isBehindOne(message, left)) {
                    return message;
                }
            }
            return least;
        }

        private boolean isBehindOne(int message, int left) {
            for (int other = 0; other < MESSAGES; other++) {
                if (other != message && isIn(left, other) && isAhead(other, message)) {
                    return true;
                }
            }
            return false;
        }
    }

    /** What is asked of a net, and changes nothing there. */
    private static final class Asked {
        private Asked() {
        }

        static int deliveredBy(Net net, int message) {
            int set = 0;
            for (int node = 0; node < net.nodeCount; node++) {
                if (net.holdings.kind[spotOf(node, message)] == DELIVERED) {
                    set |= 1 << node;
                }
            }
            return set;
        }

        static int gatherers(Net net, int message) {
            int set = 0;
            for (int node = 0; node < net.nodeCount; node++) {
                if (net.gathers.isOn(spotOf(node, message))) {
                    set |= 1 << node;
                }
            }
            return set;
        }

        static int blockOf(Net net, int node, int message) {
            Holdings holdings = net.holdings;
            int own = spotOf(node, message);
            if (!holdings.isPending(own)) {
                return NONE;
            }
            int found = NONE;
            for (int other = 0; other < net.mail.total; other++) {
                int at = spotOf(node, other);
                boolean isLesser = holdings.stamp[at] < holdings.stamp[own]
                        || holdings.stamp[at] == holdings.stamp[own] && other <= message;
                if (holdings.kind[at] == PROPOSED && isLesser
                        && (found == NONE || holdings.stamp[at] < holdings.stamp[spotOf(node, found)])) {
                    found = other;
                }
            }
            return found;
        }

        static int waitsOf(Net net, int message) {
            int waits = NONE;
            int open = net.mail.to[message] & ~net.noticedNodes();
            for (int node = 0; node < net.nodeCount; node++) {
                int at = spotOf(node, message);
                if (net.isUp(node) && net.gathers.isOn(at)) {
                    waits = (waits == NONE ? 0 : waits) | open & ~net.gathers.heard[at];
                }
            }
            return waits;
        }

        static int chainAt(Net net, int node, int message, int k) {
            int seen = 1 << message;
            int next = blockOf(net, node, message);
            for (int place = 0; place < MESSAGES; place++) {
                if (next == NONE || isIn(seen, next)) {
                    return NONE;
                }
                if (place == k) {
                    return next;
                }
                seen |= 1 << next;
                int where = leastOf(waitsOf(net, next));
                next = blockOf(net, where == NONE ? node : where, next);
            }
            return NONE;
        }

        /** The least of a set of NODES; NONE without one, and without a set. */
        private static int leastOf(int set) {
            if (set == NONE) {
                return NONE;
            }
            for (int node = 0; node < NODES; node++) {
                if (isIn(set, node)) {
                    return node;
                }
            }
            return NONE;
        }

        static int lateOf(Net net, int message) {
            int done = deliveredBy(net, message);
            if ((net.mail.to[message] & net.upNodes() & ~done) != 0) {
                return NONE;
            }
            int late = NONE;
            for (int node = 0; node < net.nodeCount; node++) {
                if (isIn(done, node)) {
                    late = Math.max(late, net.holdings.when[spotOf(node, message)] - net.mail.begun[message]);
                }
            }
            return late;
        }

        static int firstOf(Net net, int message, int other) {
            for (int node = 0; node < net.nodeCount; node++) {
                int place = net.holdings.placeOf(node, message);
                int otherPlace = net.holdings.placeOf(node, other);
                if (place != NONE && otherPlace != NONE) {
                    return place < otherPlace ? message : other;
                }
            }
            return NONE;
        }

        static int partedPairs(Net net, int node, int other) {
            Holdings holdings = net.holdings;
            int pairs = 0;
            for (int k = 0; k < holdings.handedOut[node]; k++) {
                int place = holdings.placeOf(other, holdings.order[spotOf(node, k)]);
                for (int j = k + 1; j < holdings.handedOut[node] && place != NONE; j++) {
                    int later = holdings.placeOf(other, holdings.order[spotOf(node, j)]);
                    if (later != NONE && later < place) {
                        pairs++;
                    }
                }
            }
            return pairs;
        }

        static int ringOf(Net net) {
            for (int one = 0; one < net.groupCount; one++) {
                for (int two = one + 1; two < net.groupCount; two++) {
                    for (int three = two + 1; three < net.groupCount; three++) {
                        if (isRing(net.groups[one], net.groups[two], net.groups[three])) {
                            return 1 << one | 1 << two | 1 << three;
                        }
                    }
                }
            }
            return NONE;
        }

        private static boolean isRing(int one, int two, int three) {
            return (one & two) != 0 && (two & three) != 0 && (one & three) != 0 && (one & two & three) == 0;
        }
    }
}
