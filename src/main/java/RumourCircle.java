/**
 * Nodes that find out by probing one another, by helpers, and by news that rides on every message,
 * which of them have stopped; a node that is suspected wrongly can clear itself by a higher
 * incarnation.
 */
public final class RumourCircle {
    public static final int NONE = -1;
    public static final int ALIVE = 0;
    public static final int SUSPECT = 1;
    public static final int FAULTY = 2;

    private static final int LEAST_NODES = 2;
    private static final int MOST_NODES = 6;
    private static final int USUAL_NODES = 4;

    private static final int PING = 1;
    private static final int ACK = 2;
    private static final int REQUEST = 3;

    private static final int MOST_FLYING = 24;
    private static final int MOST_NEWS = 2;
    private static final int MOST_SENDS = 6;
    private static final int MOST_HELPERS = 2;
    private static final int SUSPECT_PERIODS = 3;
    private static final int ANSWERED_MARK = 8;

    // Far above need: a message causes at most three more (REQUEST, PING, ACK, ACK), so that a row
    // is empty after at most 4 * 24 arrivals.
    private static final int MOST_ARRIVALS = 10_000;

    private final int n;
    private final Node[] nodes;
    private final Row row;

    public RumourCircle(int n) {
        this.n = n < LEAST_NODES || n > MOST_NODES ? USUAL_NODES : n;
        nodes = new Node[this.n];
        for (int a = 0; a < this.n; a++) {
            nodes[a] = new Node(a, this.n);
        }
        row = new Row();
    }

    public int period(int a) {
        if (!isUp(a)) {
            return NONE;
        }
        return makePeriod(nodes[a]);
    }

    public int help(int a) {
        if (!isUp(a) || !nodes[a].waitsForAnswer()) {
            return NONE;
        }
        return askForHelp(nodes[a]);
    }

    public int deliver(int k) {
        if (!row.has(k)) {
            return NONE;
        }
        return arrive(k);
    }

    public boolean lose(int k) {
        if (!row.has(k)) {
            return false;
        }
        row.takeOut(k);
        return true;
    }

    public int round() {
        for (int a = 0; a < n; a++) {
            if (nodes[a].up) {
                makePeriod(nodes[a]);
            }
        }
        int arrived = arriveAll();
        for (int a = 0; a < n; a++) {
            if (nodes[a].up && nodes[a].waitsForAnswer()) {
                askForHelp(nodes[a]);
            }
        }
        return arrived + arriveAll();
    }

    public boolean stop(int a) {
        if (!isUp(a)) {
            return false;
        }
        nodes[a].up = false;
        return true;
    }

    public boolean isUp(int a) {
        return isNode(a) && nodes[a].up;
    }

    public int status(int a, int m) {
        return isNode(a) && isNode(m) ? nodes[a].statusOf[m] : NONE;
    }

    public int incarnation(int a, int m) {
        return isNode(a) && isNode(m) ? nodes[a].incarnationOf[m] : NONE;
    }

    public int timer(int a, int m) {
        return isNode(a) && isNode(m) ? nodes[a].timerFor[m] : 0;
    }

    public int probe(int a) {
        if (!isNode(a) || nodes[a].target == NONE) {
            return NONE;
        }
        return nodes[a].answered ? nodes[a].target + ANSWERED_MARK : nodes[a].target;
    }

    public int sent(int a, int m) {
        return isNode(a) && isNode(m) ? nodes[a].buffer.timesSent[m] : NONE;
    }

    public int flying() {
        return row.size;
    }

    public int message(int k) {
        if (!row.has(k)) {
            return NONE;
        }
        Message message = row.places[k];
        return message.kind * 4096 + message.sender * 512 + message.receiver * 64
                + message.target * 8 + message.newsCount;
    }

    public long news(int k, int j) {
        if (!row.has(k) || j < 0 || j >= row.places[k].newsCount) {
            return NONE;
        }
        Message message = row.places[k];
        return message.newsNode[j] * 4L + message.newsStatus[j] + message.newsIncarnation[j] * 64L;
    }

    public int declared(int m) {
        if (!isNode(m)) {
            return NONE;
        }
        int count = 0;
        for (int a = 0; a < n; a++) {
            if (nodes[a].up && nodes[a].statusOf[m] == FAULTY) {
                count++;
            }
        }
        return count;
    }

    public int doubted() {
        int count = 0;
        for (int a = 0; a < n; a++) {
            for (int m = 0; m < n; m++) {
                if (nodes[a].up && nodes[m].up && nodes[a].statusOf[m] != ALIVE) {
                    count++;
                }
            }
        }
        return count;
    }

    private boolean isNode(int a) {
        return a >= 0 && a < n;
    }

    private int makePeriod(Node a) {
        a.ageSuspects();
        a.suspectSilentTarget();
        a.chooseTarget();
        if (a.target != NONE) {
            send(PING, a, a.target, a.self, a.target, a.probeNumber);
        }
        return a.target;
    }

    private int askForHelp(Node a) {
        int asked = 0;
        int m = a.target;
        for (int step = 1; step < n && asked < MOST_HELPERS; step++) {
            m = a.nextAfter(m);
            if (a.mayAsk(m)) {
                send(REQUEST, a, m, a.self, a.target, a.probeNumber);
                asked++;
            }
        }
        return asked;
    }

    private int arriveAll() {
        int arrived = 0;
        while (arrived < MOST_ARRIVALS && row.size > 0) {
            arrive(0);
            arrived++;
        }
        return arrived;
    }

    private int arrive(int k) {
        Message message = row.takeOut(k);
        Node b = nodes[message.receiver];
        if (b.up) {
            b.hearAll(message);
            react(b, message);
        }
        return message.kind;
    }

    private void react(Node b, Message message) {
        int origin = message.origin;
        int target = message.target;
        int probeNumber = message.probeNumber;
        switch (message.kind) {
            case PING:
                send(ACK, b, message.sender, origin, target, probeNumber);
                break;
            case ACK:
                if (b.self == origin) {
                    b.takeAnswer(probeNumber);
                } else {
                    send(ACK, b, origin, origin, target, probeNumber);
                }
                break;
            case REQUEST:
                send(PING, b, target, origin, target, probeNumber);
                break;
            default:
                break;
        }
    }

    private void send(int kind, Node from, int to, int origin, int target, int probeNumber) {
        Message message = row.placeForNext();
        message.kind = kind;
        message.sender = from.self;
        message.receiver = to;
        message.origin = origin;
        message.target = target;
        message.probeNumber = probeNumber;
        from.buffer.load(message);
    }

    /** What one node knows: its view of the others (and itself), its buffer and its probe. */
    private static final class Node {
        final int self;
        final int n;
        // A node's entries about itself: always ALIVE, its own incarnation, timer 0.
        final int[] statusOf;
        final int[] incarnationOf;
        final int[] timerFor;
        final Buffer buffer;
        boolean up;
        int lastTarget;
        int probeNumber;
        // NONE when there is no probe.
        int target;
        boolean answered;

        Node(int self, int n) {
            this.self = self;
            this.n = n;
            statusOf = new int[n];
            incarnationOf = new int[n];
            timerFor = new int[n];
            buffer = new Buffer(n);
            up = true;
            lastTarget = self;
            target = NONE;
        }

        int nextAfter(int m) {
            return m + 1 < n ? m + 1 : 0;
        }

        boolean waitsForAnswer() {
            return target != NONE && !answered;
        }

        boolean mayAsk(int m) {
            return m != self && m != target && statusOf[m] != FAULTY;
        }

        void ageSuspects() {
            for (int m = 0; m < n; m++) {
                if (statusOf[m] == SUSPECT) {
                    timerFor[m]++;
                    if (timerFor[m] == SUSPECT_PERIODS) {
                        adopt(m, FAULTY, incarnationOf[m]);
                    }
                }
            }
        }

        void suspectSilentTarget() {
            if (waitsForAnswer() && statusOf[target] == ALIVE) {
                adopt(target, SUSPECT, incarnationOf[target]);
            }
        }

        void chooseTarget() {
            target = nextTarget();
            answered = false;
            if (target != NONE) {
                lastTarget = target;
                probeNumber++;
            }
        }

        int nextTarget() {
            int m = lastTarget;
            for (int step = 1; step <= n; step++) {
                m = nextAfter(m);
                if (m != self && statusOf[m] != FAULTY) {
                    return m;
                }
            }
            return NONE;
        }

        void takeAnswer(int number) {
            if (target != NONE && number == probeNumber) {
                answered = true;
            }
        }

        void hearAll(Message message) {
            for (int j = 0; j < message.newsCount; j++) {
                hear(message.newsNode[j], message.newsStatus[j], message.newsIncarnation[j]);
            }
        }

        void hear(int m, int s, int i) {
            if (m == self) {
                if (s != ALIVE && i >= incarnationOf[self]) {
                    adopt(self, ALIVE, i + 1);
                }
            } else if (isNewer(s, i, statusOf[m], incarnationOf[m])) {
                adopt(m, s, i);
            }
        }

        // A change of a view is always announced, and never leaves an old timer behind.
        void adopt(int m, int s, int i) {
            statusOf[m] = s;
            incarnationOf[m] = i;
            timerFor[m] = 0;
            buffer.announce(m, s, i);
        }

        static boolean isNewer(int s, int i, int t, int j) {
            if (t == FAULTY) {
                return false;
            }
            if (s == FAULTY) {
                return true;
            }
            return s == SUSPECT && t == ALIVE ? i >= j : i > j;
        }
    }

    /** The news that a node has to send, at most one about each node. */
    private static final class Buffer {
        final int[] newsStatus;
        final int[] newsIncarnation;
        // NONE where there is no news about the node.
        final int[] timesSent;

        Buffer(int n) {
            newsStatus = new int[n];
            newsIncarnation = new int[n];
            timesSent = new int[n];
            for (int m = 0; m < n; m++) {
                timesSent[m] = NONE;
            }
        }

        void announce(int m, int s, int i) {
            newsStatus[m] = s;
            newsIncarnation[m] = i;
            timesSent[m] = 0;
        }

        // Both are picked before either counts as sent: the counts as they were decide.
        void load(Message message) {
            message.newsCount = 0;
            int first = leastSentBut(NONE);
            int second = leastSentBut(first);
            handOver(first, message);
            handOver(second, message);
        }

        int leastSentBut(int except) {
            int least = NONE;
            for (int m = 0; m < timesSent.length; m++) {
                if (m != except && timesSent[m] != NONE
                        && (least == NONE || timesSent[m] < timesSent[least])) {
                    least = m;
                }
            }
            return least;
        }

        void handOver(int m, Message message) {
            int j = message.newsCount;
            if (m == NONE || j >= MOST_NEWS) {
                return;
            }
            message.newsNode[j] = m;
            message.newsStatus[j] = newsStatus[m];
            message.newsIncarnation[j] = newsIncarnation[m];
            message.newsCount = j + 1;
            timesSent[m]++;
            if (timesSent[m] == MOST_SENDS) {
                timesSent[m] = NONE;
            }
        }
    }

    /** A message and the news that it carries. */
    private static final class Message {
        int kind;
        int sender;
        int receiver;
        int origin;
        int target;
        int probeNumber;
        int newsCount;
        final int[] newsNode;
        final int[] newsStatus;
        final int[] newsIncarnation;

        Message() {
            newsNode = new int[MOST_NEWS];
            newsStatus = new int[MOST_NEWS];
            newsIncarnation = new int[MOST_NEWS];
        }
    }

    /** The messages in flight, the oldest first, in places that are made once and used again. */
    private static final class Row {
        final Message[] places;
        int size;

        // The one place more is for a message that is lost for want of room, or just taken out.
        Row() {
            places = new Message[MOST_FLYING + 1];
            for (int k = 0; k <= MOST_FLYING; k++) {
                places[k] = new Message();
            }
        }

        boolean has(int k) {
            return k >= 0 && k < size;
        }

        Message placeForNext() {
            Message place = places[size];
            if (size < MOST_FLYING) {
                size++;
            }
            return place;
        }

        // What is taken out goes to the last place, where the one message that may be sent
        // because it arrived can't overwrite it: the row is not full then.
        Message takeOut(int k) {
            Message taken = places[k];
            for (int i = k; i < MOST_FLYING; i++) {
                places[i] = places[i + 1];
            }
            places[MOST_FLYING] = taken;
            size--;
            return taken;
        }
    }
}
