/**
 * The sentences of promises 1 to 18 that name a boundary case, each with a test of its own; and an object
 * that is used for as many calls as the document allows.
 */
public final class EdgesTest {
    private static final int NONE = RumourCircle.NONE;
    private static final int ALIVE = RumourCircle.ALIVE;
    private static final int SUSPECT = RumourCircle.SUSPECT;
    private static final int FAULTY = RumourCircle.FAULTY;
    private static final int PING = 1;
    private static final int ACK = 2;
    private static final int REQUEST = 3;
    private static final int LEAST = Integer.MIN_VALUE;
    private static final int MOST = Integer.MAX_VALUE;
    // No node, whatever the number of nodes; n itself is tried beside them.
    private static final int[] NEVER_NODES = {LEAST, -64, -2, -1, 6, 7, 8, 9, 16, 32, 64, 256, MOST - 1, MOST};
    private static final int[] NEVER_MESSAGES = {LEAST, -24, -2, -1, 24, 25, 64, MOST - 1, MOST};

    private static final Check check = new Check();

    public static void main(String[] args) {
        promise1();
        promise2();
        promise3();
        promise4();
        promise5();
        promise6();
        promise7();
        promise8();
        promise9();
        promise10();
        promise11();
        promise12();
        promise13();
        promise14();
        promise15();
        promise16();
        promise17();
        promise18();
        manyCalls();
        check.end();
    }

    /** For 0 of three nodes, 1 is FAULTY and 2 SUSPECT with timer 2; nothing flies. */
    private static RumourCircle lonely() {
        return Run.of(3, "p0 l0 p0 l0 p0 l0 p0 l0 p0 l0");
    }

    private static void dueNodes(int n, int nodes) {
        RumourCircle x = new RumourCircle(n);
        for (int a = -1; a <= 8; a++) {
            check.due("isUp(" + a + ") of " + n, x.isUp(a), a >= 0 && a < nodes);
        }
        check.due("the last node's first target of " + n, x.period(nodes - 1), 0);
        check.due("the first target of the last but one of " + n, x.period(nodes - 2), nodes - 1);
    }

    private static void promise1() {
        check.part("promise 1, \"n nodes\"");
        for (int n = 2; n <= 6; n++) {
            dueNodes(n, n);
        }
        check.part("promise 1, \"4 if n is not 2 .. 6\", too small");
        for (int n : new int[] {1, 0, -1, -2, -4, -6, LEAST + 2, LEAST}) {
            dueNodes(n, 4);
        }
        check.part("promise 1, \"4 if n is not 2 .. 6\", too large");
        for (int n : new int[] {7, 8, 9, 16, 24, 1000, MOST - 1, MOST}) {
            dueNodes(n, 4);
        }
        check.part("promise 1, \"no messages\"");
        RumourCircle x = new RumourCircle(6);
        check.dueFlying(x, 0);
        check.dueMessage(x, 0, NONE);
        check.dueNews(x, 0, 0, NONE);
        check.due("deliver(0)", x.deliver(0), NONE);
        check.due("lose(0)", x.lose(0), false);
        check.part("promise 1, \"empty buffers\"");
        for (int n = 2; n <= 6; n++) {
            x = new RumourCircle(n);
            for (int a = 0; a < n; a++) {
                for (int m = 0; m < n; m++) {
                    check.dueSent(x, a, m, NONE);
                }
                x.period(a);
                check.due("news of message " + a, x.message(a) % 8, 0);
            }
        }
    }

    private static void promise2() {
        check.part("promise 2, \"Answers its target\"");
        RumourCircle x = new RumourCircle(6);
        check.due("period(5)", x.period(5), 0);
        check.due("period(4)", x.period(4), 5);
        check.due("period(0)", x.period(0), 1);
        check.part("promise 2, \"Answers its target\", when its PING is lost for want of room");
        x = Run.crowded(24);
        check.due("period(3)", x.period(3), 4);
        check.part("promise 2, \"NONE if it has none then\"");
        x = Run.of(2, "p1 p1 p1 p1");
        check.due("period(1)", x.period(1), NONE);
        check.due("status(1, 0)", x.status(1, 0), FAULTY);
        x = Run.of(3, "p0 p0 p0 p0 p0");
        check.due("period(0)", x.period(0), NONE);
        check.part("promise 2, refused \"when there is no node a\"");
        for (int n = 2; n <= 6; n++) {
            x = new RumourCircle(n);
            check.due("period(" + n + ") of " + n, x.period(n), NONE);
            for (int a : NEVER_NODES) {
                check.due("period(" + a + ") of " + n, x.period(a), NONE);
            }
            check.dueFlying(x, 0);
        }
        check.part("promise 2, refused when \"it is down\"");
        x = Run.of(3, "p0 s0");
        check.due("period(0)", x.period(0), NONE);
        check.dueFlying(x, 1);
        check.dueProbe(x, 0, 1);
        check.dueView(x, 0, 1, ALIVE, 0, 0);
    }

    private static void promise3() {
        check.part("promise 3, \"Answers how many messages it sent\"");
        int[] others = {0, 1, 2, 2, 2};
        for (int n = 2; n <= 6; n++) {
            RumourCircle x = Run.of(n, "p0");
            check.due("help(0) of " + n, x.help(0), others[n - 2]);
            check.dueFlying(x, 1 + others[n - 2]);
        }
        check.part("promise 3, \"(also those that were lost for want of room)\", one of two");
        RumourCircle x = Run.crowded(23);
        check.due("help(0)", x.help(0), 2);
        check.dueFlying(x, 24);
        check.dueMessage(x, 23, Check.packed(REQUEST, 0, 2, 1, 0));
        check.part("promise 3, \"(also those that were lost for want of room)\", both");
        x = Run.crowded(24);
        check.due("help(0)", x.help(0), 2);
        check.dueFlying(x, 24);
        check.part("promise 3, room for both");
        x = Run.crowded(22);
        check.due("help(0)", x.help(0), 2);
        check.dueFlying(x, 24);
        check.dueMessage(x, 23, Check.packed(REQUEST, 0, 3, 1, 0));
        promise3Refused();
    }

    private static void promise3Refused() {
        check.part("promise 3, refused \"when there is no node a\"");
        for (int n = 2; n <= 6; n++) {
            RumourCircle x = Run.of(n, "r p0 p1");
            check.due("help(" + n + ") of " + n, x.help(n), NONE);
            for (int a : NEVER_NODES) {
                check.due("help(" + a + ") of " + n, x.help(a), NONE);
            }
            check.dueFlying(x, 2);
        }
        check.part("promise 3, refused when \"it is down\"");
        RumourCircle x = Run.of(3, "p0 s0");
        check.due("help(0)", x.help(0), NONE);
        check.dueFlying(x, 1);
        check.part("promise 3, refused when \"it has no probe\"");
        x = new RumourCircle(3);
        check.due("help(1) of a new object", x.help(1), NONE);
        x = Run.of(2, "p0 p0 p0 p0 p0");
        check.due("help(0) when it has none any more", x.help(0), NONE);
        check.dueFlying(x, 4);
        check.part("promise 3, refused when it has no probe \"that is not answered\"");
        x = Run.of(3, "p0 d0 d0");
        check.due("help(0)", x.help(0), NONE);
        check.dueFlying(x, 0);
        x = Run.of(3, "p0 d0");
        check.due("help(0) while the ACK flies", x.help(0), 1);
    }

    private static void promise4() {
        check.part("promise 4, \"Answers its kind\"");
        RumourCircle x = Run.of(4, "p0 h0");
        check.due("deliver(0)", x.deliver(0), PING);
        check.due("deliver(0)", x.deliver(0), REQUEST);
        check.due("deliver(1)", x.deliver(1), ACK);
        check.part("promise 4, \"Answers its kind\", when the receiver is down");
        x = Run.of(4, "p0 h0 s1 s2");
        check.due("deliver(0)", x.deliver(0), PING);
        check.due("deliver(0)", x.deliver(0), REQUEST);
        x = Run.of(2, "p0 d0 s0");
        check.due("deliver(0)", x.deliver(0), ACK);
        check.dueFlying(x, 0);
        check.part("promise 4, refused \"when there is no message k\", none in flight");
        x = new RumourCircle(3);
        for (int k = -1; k <= 24; k++) {
            check.due("deliver(" + k + ")", x.deliver(k), NONE);
        }
        check.part("promise 4, refused \"when there is no message k\", some in flight");
        x = Run.of(6, "p0 p1 p2");
        for (int k : NEVER_MESSAGES) {
            check.due("deliver(" + k + ")", x.deliver(k), NONE);
        }
        check.due("deliver(3)", x.deliver(3), NONE);
        check.due("deliver(2)", x.deliver(2), PING);
        check.part("promise 4, refused \"when there is no message k\", 24 in flight");
        x = Run.crowded(24);
        for (int k : NEVER_MESSAGES) {
            check.due("deliver(" + k + ")", x.deliver(k), NONE);
        }
        check.due("deliver(23)", x.deliver(23), REQUEST);
        check.part("promise 4, refused \"when there is no message k\", after the last one arrived");
        x = Run.of(2, "p0 d0 d0");
        check.due("deliver(0)", x.deliver(0), NONE);
    }

    private static void promise5() {
        check.part("promise 5, \"taken out of the row\"");
        for (int k = 0; k < 3; k++) {
            RumourCircle x = Run.of(6, "p0 p2 p4");
            check.due("lose(" + k + ")", x.lose(k), true);
            check.dueFlying(x, 2);
            int first = k == 0 ? 2 : 0;
            int second = k == 2 ? 2 : 4;
            check.dueMessage(x, 0, Check.packed(PING, first, first + 1, first + 1, 0));
            check.dueMessage(x, 1, Check.packed(PING, second, second + 1, second + 1, 0));
            check.dueMessage(x, 2, NONE);
        }
        check.part("promise 5, \"does not arrive\"");
        RumourCircle x = Run.of(3, "p0 p0 l1");
        check.dueFlying(x, 1);
        check.dueView(x, 2, 1, ALIVE, 0, 0);
        x = Run.of(2, "p0 d0 l0");
        check.dueProbe(x, 0, 1);
        check.dueFlying(x, 0);
        check.part("promise 5, room again");
        x = Run.crowded(24);
        check.due("lose(23)", x.lose(23), true);
        check.due("period(5)", x.period(5), 0);
        check.dueMessage(x, 23, Check.packed(PING, 5, 0, 0, 0));
        promise5Refused();
    }

    private static void promise5Refused() {
        check.part("promise 5, refused \"when there is no message k\"");
        RumourCircle x = new RumourCircle(3);
        for (int k = -1; k <= 24; k++) {
            check.due("lose(" + k + ") of none", x.lose(k), false);
        }
        x = Run.of(2, "p0");
        for (int k : NEVER_MESSAGES) {
            check.due("lose(" + k + ") of one", x.lose(k), false);
        }
        check.due("lose(1) of one", x.lose(1), false);
        check.due("lose(0) of one", x.lose(0), true);
        check.due("lose(0) of none", x.lose(0), false);
        x = Run.crowded(24);
        for (int k : NEVER_MESSAGES) {
            check.due("lose(" + k + ") of 24", x.lose(k), false);
        }
        check.dueFlying(x, 24);
    }

    private static void promise6() {
        roundOfThoseUp();
        roundInOrder();
        roundByHand();
        roundUntilNoneFlies();
        roundAsksForHelp();
        roundAsksNoHelp();
        roundCounts();
        roundOfNobody();
    }

    private static void roundOfThoseUp() {
        check.part("promise 6, \"every node that is up makes its period\"");
        RumourCircle x = Run.of(4, "s1 s3 r");
        check.dueProbe(x, 0, 1);
        check.dueProbe(x, 1, NONE);
        check.dueProbe(x, 2, 3);
        check.dueProbe(x, 3, NONE);
        // One that finds no target sends nothing.
        x = Run.of(2, "p0 p0 p0 p0 l0 l0 l0 l0 s1");
        check.due("round()", x.round(), 0);
        check.dueProbe(x, 0, NONE);
        check.due("status(0, 1)", x.status(0, 1), FAULTY);
    }

    private static void roundInOrder() {
        check.part("promise 6, \"in the order of their numbers\"");
        // 22 REQUESTs to nodes that are down; there is room for the PINGs of 0 and 1 alone, of those up.
        RumourCircle x = Run.crowded(23);
        Run.on(x, "l0 s2 s3");
        check.dueFlying(x, 22);
        // The two PINGs go to 2, in vain: 24 arrivals. Then all four ask for help: 0 and 1, about 2,
        // each with a REQUEST to 3, and one to 4 that sends a PING: 2 * 3 arrivals; 4, about 5, with two
        // that are followed: 2 * 4; 5, about 0, with one that is followed and one to 2: 4 + 1.
        check.due("round()", x.round(), 24 + 2 * 3 + 2 * 4 + 4 + 1);
        check.dueProbe(x, 0, 2);
        check.dueProbe(x, 1, 2);
        check.dueProbe(x, 4, 13);
        check.dueProbe(x, 5, 8);
    }

    /** The promise's words, call by call. */
    private static int round(RumourCircle y, int n) {
        for (int a = 0; a < n; a++) {
            y.period(a);
        }
        int arrived = arrivals(y);
        for (int a = 0; a < n; a++) {
            y.help(a);
        }
        return arrived + arrivals(y);
    }

    private static int arrivals(RumourCircle y) {
        int arrived = 0;
        while (arrived < 400 && y.deliver(0) != NONE) {
            arrived++;
        }
        return arrived;
    }

    private static void dueLikeByHand(int n, String begin, int rounds) {
        RumourCircle x = Run.of(n, begin);
        RumourCircle y = Run.of(n, begin);
        for (int i = 0; i < rounds; i++) {
            check.due("round() number " + (i + 1) + " after " + begin, x.round(), round(y, n));
        }
        check.due("what is left after " + begin, Snapshot.of(x), Snapshot.of(y));
    }

    private static void roundByHand() {
        // Each of these ends otherwise if the newest message arrives first, or before all periods are made,
        check.part("promise 6, \"then message 0 arrives, again and again\", as by single calls");
        dueLikeByHand(2, "p1", 2);
        dueLikeByHand(3, "p0", 2);
        dueLikeByHand(6, "p0 p0 p0 p5 p5 p5 h0 h5", 2);
        // or after the help,
        check.part("promise 6, \"then message 0 arrives again and again\", as by single calls");
        dueLikeByHand(4, "p3 p3 s2", 1);
        dueLikeByHand(5, "s3 p1", 1);
        dueLikeByHand(6, "s2 p0", 1);
        // or if those who ask for help do it in another order, or when the messages of the one before have arrived.
        check.part("promise 6, \"asks for help, in the same order\", as by single calls");
        dueLikeByHand(3, "s0 p1", 1);
        dueLikeByHand(4, "s1 p2 p2", 1);
        dueLikeByHand(4, "s3 p1", 1);
        dueLikeByHand(5, "s1 p4", 1);
        dueLikeByHand(6, "s3 p1", 1);
    }

    private static void roundUntilNoneFlies() {
        check.part("promise 6, \"until none is in flight\"");
        for (int n = 2; n <= 6; n++) {
            RumourCircle x = new RumourCircle(n);
            for (int i = 0; i < 4; i++) {
                x.round();
                check.dueFlying(x, 0);
            }
            x.stop(0);
            for (int i = 0; i < 4; i++) {
                x.round();
                check.dueFlying(x, 0);
            }
        }
        RumourCircle x = Run.crowded(24);
        x.round();
        check.dueFlying(x, 0);
        // The most that can arrive before the help: 24 REQUESTs, each followed by a PING and two ACKs; what
        // the last one tells goes with the help.
        String requests = "p1 l0 p2 l0 h1 h2 h1 h1 p0 l8 h2 h2 h2 h1 h1 h2 h2 h0";
        x = Run.of(4, requests);
        check.dueFlying(x, 24);
        for (int k = 0; k < 24; k++) {
            check.due("the kind of message " + k, x.message(k) / 4096, REQUEST);
        }
        dueLikeByHand(4, requests, 1);
    }

    private static void roundAsksForHelp() {
        check.part("promise 6, \"every node that is up and has a probe that is not answered asks for help\"");
        // 3 is down: 2 has no answer by its PING, nor by the REQUESTs to 0 and 1, with a PING each.
        RumourCircle x = Run.of(4, "s3");
        check.due("round()", x.round(), 2 + 2 + 1 + 2 * 2);
        check.dueProbe(x, 2, 3);
        // Before the next period nobody is suspected.
        check.due("doubted()", x.doubted(), 0);
        check.dueView(x, 2, 3, ALIVE, 0, 0);
        // 24 in flight: all the PINGs of the round are lost, all its probes are answered by helpers.
        x = Run.crowded(24);
        x.round();
        for (int a = 0; a < 6; a++) {
            check.due("probe(" + a + ") is answered", x.probe(a) >= 8, true);
        }
    }

    private static void roundAsksNoHelp() {
        check.part("promise 6, who does not ask for help");
        // All have an answer.
        RumourCircle x = new RumourCircle(4);
        check.due("round(), all answered", x.round(), 8);
        // 0 is down, with a probe without an answer: 1's and 2's PINGs, the second without an answer; 2
        // asks 1, in vain.
        x = Run.of(3, "p0 l0 s0");
        check.due("round(), 0 is down", x.round(), 2 + 1 + 2);
        check.dueProbe(x, 0, 1);
        // 0 has nobody to ask.
        x = Run.of(2, "s1");
        check.due("round(), nobody to ask", x.round(), 1);
        check.dueProbe(x, 0, 1);
    }

    private static void roundCounts() {
        check.part("promise 6, \"Answers how many messages arrived\"");
        for (int n = 2; n <= 6; n++) {
            RumourCircle x = new RumourCircle(n);
            check.due("round() of " + n, x.round(), 2 * n);
        }
        // Those that were in flight before too.
        RumourCircle x = Run.of(2, "p0");
        check.due("round() with one in flight", x.round(), 2 + 4);
        // Those that came to one that is down too; not those that were lost for want of room: the six
        // PINGs. The two PINGs before make 2 each, the REQUESTs 4 each, and so do the twelve for help.
        x = Run.crowded(24);
        check.due("round() with 24 in flight", x.round(), 2 * 2 + 22 * 4 + 12 * 4);
    }

    private static void roundOfNobody() {
        check.part("promise 6, nobody is up");
        RumourCircle x = Run.of(3, "s0 s1 s2");
        check.due("round()", x.round(), 0);
        x = Run.of(3, "p0 p1 s0 s1 s2");
        check.due("round()", x.round(), 2);
        check.due("round()", x.round(), 0);
    }

    private static void promise7() {
        check.part("promise 7, \"Node a stops. Answers true\"");
        for (int n = 2; n <= 6; n++) {
            RumourCircle x = new RumourCircle(n);
            for (int a = n - 1; a >= 0; a--) {
                check.due("stop(" + a + ") of " + n, x.stop(a), true);
                for (int m = 0; m < n; m++) {
                    check.due("isUp(" + m + ") after stop(" + a + ")", x.isUp(m), m < a);
                }
            }
        }
        check.part("promise 7, what it has sent flies on, what it has is kept");
        RumourCircle x = Run.of(3, "p1 p1 s1");
        check.dueFlying(x, 2);
        check.dueView(x, 1, 2, SUSPECT, 0, 0);
        check.dueProbe(x, 1, 0);
        check.dueSent(x, 1, 2, 1);
        x.deliver(1);
        check.dueView(x, 0, 2, SUSPECT, 0, 0);
        check.part("promise 7, refused \"when there is no node a\"");
        for (int n = 2; n <= 6; n++) {
            x = new RumourCircle(n);
            check.due("stop(" + n + ") of " + n, x.stop(n), false);
            for (int a : NEVER_NODES) {
                check.due("stop(" + a + ") of " + n, x.stop(a), false);
            }
            for (int a = 0; a < n; a++) {
                check.due("isUp(" + a + ") of " + n, x.isUp(a), true);
            }
        }
        check.part("promise 7, refused when \"it is down\"");
        x = Run.of(3, "s0");
        check.due("stop(0)", x.stop(0), false);
        check.due("isUp(0)", x.isUp(0), false);
    }

    private static void promise8() {
        check.part("promise 8, \"Whether there is a node a\"");
        for (int n = 2; n <= 6; n++) {
            RumourCircle x = new RumourCircle(n);
            check.due("isUp(" + (n - 1) + ") of " + n, x.isUp(n - 1), true);
            check.due("isUp(" + n + ") of " + n, x.isUp(n), false);
            for (int a : NEVER_NODES) {
                check.due("isUp(" + a + ") of " + n, x.isUp(a), false);
            }
        }
        check.part("promise 8, \"and it is up\"");
        RumourCircle x = Run.of(3, "s0");
        check.due("isUp(0)", x.isUp(0), false);
        check.due("isUp(1)", x.isUp(1), true);
        // Whatever others hold it for.
        check.due("isUp(1) of one that is FAULTY for 0", lonely().isUp(1), true);
    }

    private static void promise9() {
        check.part("promise 9, \"The status of node m in the view of node a\"");
        RumourCircle x = lonely();
        check.due("status(0, 1)", x.status(0, 1), FAULTY);
        check.due("status(0, 2)", x.status(0, 2), SUSPECT);
        check.due("status(1, 0)", x.status(1, 0), ALIVE);
        // One that is down and of which nobody knows it.
        check.due("status(0, 1) of one that is down", Run.of(2, "s1").status(0, 1), ALIVE);
        check.part("promise 9, \"(also when a is down\"");
        x.stop(0);
        check.due("status(0, 1)", x.status(0, 1), FAULTY);
        check.due("status(0, 2)", x.status(0, 2), SUSPECT);
        check.part("promise 9, \"of itself: ALIVE)\"");
        check.due("status(0, 0) when down", x.status(0, 0), ALIVE);
        check.due("status(1, 1) when FAULTY for others", x.status(1, 1), ALIVE);
        x = Run.of(2, "p0 p0 p0 p0 p1 p0 d4 d4");
        check.due("incarnation(1, 1)", x.incarnation(1, 1), 1);
        check.due("status(1, 1) when it has heard it", x.status(1, 1), ALIVE);
        check.part("promise 9, \"NONE when one of them is no node\"");
        for (int n = 2; n <= 6; n++) {
            x = new RumourCircle(n);
            check.due("status(" + n + ", 0) of " + n, x.status(n, 0), NONE);
            check.due("status(0, " + n + ") of " + n, x.status(0, n), NONE);
            check.due("status(" + n + ", " + n + ") of " + n, x.status(n, n), NONE);
            for (int a : NEVER_NODES) {
                check.due("status(" + a + ", 1) of " + n, x.status(a, 1), NONE);
                check.due("status(1, " + a + ") of " + n, x.status(1, a), NONE);
                check.due("status(" + a + ", " + a + ") of " + n, x.status(a, a), NONE);
            }
        }
    }

    private static void promise10() {
        check.part("promise 10, \"The incarnation of node m in the view of node a\"");
        RumourCircle x = Run.of(2, "p0 p0 d1");
        check.due("incarnation(0, 1) before it is heard", x.incarnation(0, 1), 0);
        x.deliver(1);
        check.due("incarnation(0, 1)", x.incarnation(0, 1), 1);
        x.stop(0);
        check.due("incarnation(0, 1) when 0 is down", x.incarnation(0, 1), 1);
        check.part("promise 10, \"(of itself: its own)\"");
        check.due("incarnation(1, 1)", x.incarnation(1, 1), 1);
        check.due("incarnation(0, 0)", x.incarnation(0, 0), 0);
        x.stop(1);
        check.due("incarnation(1, 1) when down", x.incarnation(1, 1), 1);
        check.part("promise 10, \"NONE when one of them is no node\"");
        for (int n = 2; n <= 6; n++) {
            x = new RumourCircle(n);
            check.due("incarnation(" + n + ", 0) of " + n, x.incarnation(n, 0), NONE);
            check.due("incarnation(0, " + n + ") of " + n, x.incarnation(0, n), NONE);
            check.due("incarnation(" + n + ", " + n + ") of " + n, x.incarnation(n, n), NONE);
            for (int a : NEVER_NODES) {
                check.due("incarnation(" + a + ", 1) of " + n, x.incarnation(a, 1), NONE);
                check.due("incarnation(1, " + a + ") of " + n, x.incarnation(1, a), NONE);
                check.due("incarnation(" + a + ", " + a + ") of " + n, x.incarnation(a, a), NONE);
            }
        }
    }

    private static void promise11() {
        check.part("promise 11, \"The timer of node a for node m\"");
        RumourCircle x = lonely();
        check.due("timer(0, 2)", x.timer(0, 2), 2);
        check.due("timer(0, 1)", x.timer(0, 1), 0);
        check.due("timer(2, 0)", x.timer(2, 0), 0);
        x.stop(0);
        check.due("timer(0, 2) when 0 is down", x.timer(0, 2), 2);
        check.part("promise 11, \"0 when one of them is no node\"");
        for (int n = 2; n <= 6; n++) {
            x = Run.of(n, "p0 p0 p0 p0");
            check.due("timer(0, 1) of " + n, x.timer(0, 1), 2);
            check.due("timer(0, " + n + ") of " + n, x.timer(0, n), 0);
            check.due("timer(" + n + ", 1) of " + n, x.timer(n, 1), 0);
            check.due("timer(" + n + ", " + n + ") of " + n, x.timer(n, n), 0);
            for (int a : NEVER_NODES) {
                check.due("timer(0, " + a + ") of " + n, x.timer(0, a), 0);
                check.due("timer(" + a + ", 1) of " + n, x.timer(a, 1), 0);
                check.due("timer(" + a + ", " + a + ") of " + n, x.timer(a, a), 0);
            }
            check.part("promise 11, \"or they are the same\"");
            for (int a = 0; a < n; a++) {
                check.due("timer(" + a + ", " + a + ") of " + n, x.timer(a, a), 0);
            }
            check.part("promise 11, \"0 when one of them is no node\"");
        }
        check.part("promise 11, \"or they are the same\"");
        // 1 knows that it was suspected, and clears itself; its periods go on.
        x = Run.of(2, "p0 p0 d1 p1 p1 p1");
        check.due("timer(1, 1)", x.timer(1, 1), 0);
        check.due("timer(1, 0)", x.timer(1, 0), 1);
    }

    private static void promise12() {
        check.part("promise 12, \"its target\"");
        RumourCircle x = Run.of(6, "p5 p4");
        check.dueProbe(x, 5, 0);
        check.dueProbe(x, 4, 5);
        check.part("promise 12, \"and 8 more when the probe is answered\"");
        Run.on(x, "d0 d0 d0 d0");
        check.dueProbe(x, 5, 8);
        check.dueProbe(x, 4, 13);
        // Kept by one that is down.
        x.stop(4);
        check.dueProbe(x, 4, 13);
        x = Run.of(2, "p1 s1");
        check.dueProbe(x, 1, 0);
        check.part("promise 12, \"NONE when there is no node a\"");
        for (int n = 2; n <= 6; n++) {
            x = Run.of(n, "r");
            check.dueProbe(x, n, NONE);
            for (int a : NEVER_NODES) {
                check.dueProbe(x, a, NONE);
            }
        }
        check.part("promise 12, NONE when \"it has no probe\"");
        check.dueProbe(new RumourCircle(4), 3, NONE);
        check.dueProbe(Run.of(2, "p0 p0 p0 p0 p0"), 0, NONE);
        check.dueProbe(Run.of(2, "s0"), 0, NONE);
    }

    private static void promise13() {
        check.part("promise 13, \"How often the news about node m in the buffer of node a was sent\"");
        // Told by an ACK to its origin, it has not been sent on.
        RumourCircle x = Run.of(2, "p0 p0 d1 d1");
        check.dueSent(x, 0, 1, 0);
        check.dueSent(x, 1, 1, 1);
        x = Run.of(6, "p0 p0 h0 h0");
        check.dueSent(x, 0, 1, 5);
        x.stop(0);
        check.dueSent(x, 0, 1, 5);
        check.part("promise 13, \"NONE when there is none\"");
        for (int m = 0; m < 6; m++) {
            check.dueSent(x, 0, m, m == 1 ? 5 : NONE);
            check.dueSent(x, 1, m, NONE);
        }
        x = Run.of(6, "p0 p0 h0 h0 h0");
        check.dueSent(x, 0, 1, NONE);
        check.part("promise 13, NONE when \"one of them is no node\"");
        for (int n = 2; n <= 6; n++) {
            x = Run.of(n, "p0 p0");
            check.dueSent(x, 0, 1, 1);
            check.dueSent(x, 0, n, NONE);
            check.dueSent(x, n, 1, NONE);
            check.dueSent(x, n, n, NONE);
            for (int a : NEVER_NODES) {
                check.dueSent(x, 0, a, NONE);
                check.dueSent(x, a, 1, NONE);
                check.dueSent(x, a, a, NONE);
            }
        }
    }

    private static void promise14() {
        check.part("promise 14, \"The number of messages in flight\"");
        RumourCircle x = new RumourCircle(6);
        check.dueFlying(x, 0);
        for (int i = 1; i <= 26; i++) {
            x.period(i % 6);
            check.dueFlying(x, Math.min(24, i));
        }
        for (int left = 23; left >= 0; left--) {
            x.lose(left / 2);
            check.dueFlying(x, left);
        }
        x.lose(0);
        check.dueFlying(x, 0);
    }

    private static void promise15() {
        check.part("promise 15, \"kind * 4096 + sender * 512 + receiver * 64 + target * 8\"");
        RumourCircle x = Run.of(6, "p5 p0 p4 h4");
        check.dueMessage(x, 0, 4096 + 5 * 512);
        check.dueMessage(x, 1, 4096 + 64 + 8);
        check.dueMessage(x, 2, 4096 + 4 * 512 + 5 * 64 + 5 * 8);
        check.dueMessage(x, 3, 3 * 4096 + 4 * 512 + 5 * 8);
        check.dueMessage(x, 4, 3 * 4096 + 4 * 512 + 64 + 5 * 8);
        // The target of the PING and of the ACKs that follow stays the same.
        x.deliver(3);
        check.dueMessage(x, 4, 4096 + 5 * 64 + 5 * 8);
        x.deliver(4);
        check.dueMessage(x, 4, 2 * 4096 + 5 * 512 + 5 * 8);
        x.deliver(4);
        check.dueMessage(x, 4, 2 * 4096 + 4 * 64 + 5 * 8);
        check.part("promise 15, \"+ the number of its news\"");
        x = Run.of(5, "p0 p0 p0 p0");
        int[] count = {0, 1, 2, 2};
        for (int k = 0; k < 4; k++) {
            check.dueMessage(x, k, 4096 + (k + 1) * 64 + (k + 1) * 8 + count[k]);
        }
        check.part("promise 15, \"NONE when there is no message k\"");
        check.dueMessage(x, 4, NONE);
        check.dueMessage(new RumourCircle(2), 0, NONE);
        // The place of one that has arrived or was lost.
        check.dueMessage(Run.of(2, "p0 d0 d0"), 0, NONE);
        check.dueMessage(Run.of(3, "p0 p1 l0"), 1, NONE);
        check.dueMessage(Run.crowded(24), 23, 3 * 4096 + 3 * 64 + 8);
        for (int k : NEVER_MESSAGES) {
            check.dueMessage(x, k, NONE);
            check.dueMessage(Run.crowded(24), k, NONE);
        }
    }

    private static void promise16() {
        check.part("promise 16, \"node * 4 + status + incarnation * 64\"");
        // SUSPECT and FAULTY, and node 0.
        RumourCircle x = Run.of(3, "p2 p2 p2 p2 p2");
        check.dueNews(x, 1, 0, 1);
        check.dueNews(x, 4, 0, 2);
        check.dueNews(x, 4, 1, 4 + 1);
        // ALIVE, and an incarnation.
        check.dueNews(Run.of(2, "p1 p1 d1"), 1, 0, 64);
        // The greatest node.
        check.dueNews(Run.of(6, "p4 p4"), 1, 0, 5 * 4 + 1);
        check.part("promise 16, NONE when there is no such \"news\"");
        x = Run.of(5, "p0 p0 p0 p0");
        int[] count = {0, 1, 2, 2};
        for (int k = 0; k < 4; k++) {
            for (int j = 0; j < 2; j++) {
                check.due("news(" + k + ", " + j + ") is there", x.news(k, j) != NONE, j < count[k]);
            }
            for (int j : new int[] {LEAST, -2, -1, 2, 3, 64, MOST}) {
                check.dueNews(x, k, j, NONE);
            }
        }
        newsOfEarlierMessages();
        check.part("promise 16, NONE when there is no such \"message\"");
        for (int j = 0; j < 2; j++) {
            check.dueNews(x, 4, j, NONE);
            for (int k : NEVER_MESSAGES) {
                check.dueNews(x, k, j, NONE);
                check.dueNews(Run.crowded(24), k, j, NONE);
            }
            check.dueNews(new RumourCircle(2), 0, j, NONE);
            // The oldest message has news; there is none before it.
            check.dueNews(Run.of(5, "p0 p0 p0 p0 l0 l0"), -1, j, NONE);
        }
        newsBehindTheLastMessage();
        check.dueNews(x, -1, -1, NONE);
        check.dueNews(x, 4, 2, NONE);
    }

    /** Where messages with news stood before, as many without come and go as may be in flight, and more. */
    private static void newsOfEarlierMessages() {
        RumourCircle x = Run.of(6, "p0 p0 h0 h0 h0 l0 l0 l0 l0 l0 l0 l0 l0");
        check.dueSent(x, 0, 1, NONE);
        check.dueFlying(x, 0);
        for (int i = 0; i < 30; i++) {
            x.help(0);
            check.dueNews(x, 0, 0, NONE);
            check.dueNews(x, 1, 0, NONE);
            check.dueMessage(x, 1, Check.packed(REQUEST, 0, 4, 2, 0));
            Run.on(x, "l0 l0");
        }
    }

    /** A row that was full of messages with news, and of which one was lost, becomes shorter. */
    private static void newsBehindTheLastMessage() {
        RumourCircle x = new RumourCircle(6);
        for (int i = 0; i < 5; i++) {
            Run.on(x, "p0 p1 p2 p3 p4 p5");
        }
        for (int left = 23; left >= 0; left--) {
            check.due("lose(" + left + ")", x.lose(left), true);
            check.dueNews(x, left, 0, NONE);
            check.dueNews(x, left, 1, NONE);
        }
    }

    private static void promise17() {
        check.part("promise 17, \"How many nodes ... have node m as FAULTY in their views\"");
        RumourCircle x = Run.of(3, "p0 p0 p0 p0");
        check.due("declared(1), SUSPECT", x.declared(1), 0);
        x.period(0);
        check.due("declared(1), by one", x.declared(1), 1);
        x.deliver(4);
        check.due("declared(1), by two", x.declared(1), 2);
        check.due("declared(0)", x.declared(0), 0);
        check.due("declared(2), SUSPECT", x.declared(2), 0);
        check.part("promise 17, \"nodes that are up\"");
        // Whether m itself is up is all the same.
        x.stop(1);
        check.due("declared(1) when 1 is down", x.declared(1), 2);
        x.stop(0);
        check.due("declared(1) when 0 is down", x.declared(1), 1);
        x.stop(2);
        check.due("declared(1) when all are down", x.declared(1), 0);
        check.part("promise 17, \"NONE when there is no node m\"");
        for (int n = 2; n <= 6; n++) {
            x = new RumourCircle(n);
            check.due("declared(" + (n - 1) + ") of " + n, x.declared(n - 1), 0);
            check.due("declared(" + n + ") of " + n, x.declared(n), NONE);
            for (int m : NEVER_NODES) {
                check.due("declared(" + m + ") of " + n, x.declared(m), NONE);
            }
        }
    }

    private static void promise18() {
        check.part("promise 18, \"m is not ALIVE in the view of a\"");
        RumourCircle x = new RumourCircle(3);
        check.due("doubted(), none", x.doubted(), 0);
        Run.on(x, "p0 p0");
        check.due("doubted(), one SUSPECT", x.doubted(), 1);
        Run.on(x, "p0 p0 p0");
        check.due("doubted(), one SUSPECT and one FAULTY", x.doubted(), 2);
        // One doubts the other, and the other way round: two pairs.
        check.due("doubted(), each other", Run.of(2, "p0 p0 p1 p1").doubted(), 2);
        check.part("promise 18, \"both up\"");
        x = lonely();
        x.stop(1);
        check.due("doubted() when the FAULTY one is down", x.doubted(), 1);
        x = lonely();
        x.stop(2);
        check.due("doubted() when the SUSPECT one is down", x.doubted(), 1);
        x = lonely();
        x.stop(0);
        check.due("doubted() when the one that doubts is down", x.doubted(), 0);
        check.due("doubted() when all are down", Run.of(2, "p0 p0 p1 p1 s0 s1").doubted(), 0);
    }

    private static void manyCalls() {
        check.part("\"used for at most 512 calls\"");
        RumourCircle x = new RumourCircle(2);
        for (int i = 1; i <= 128; i++) {
            check.due("period(0), call " + (4 * i - 3), x.period(0), 1);
            check.due("deliver(0), call " + (4 * i - 2), x.deliver(0), PING);
            check.due("deliver(0), call " + (4 * i - 1), x.deliver(0), ACK);
            check.due("probe(0), call " + 4 * i, x.probe(0), 9);
        }
        // Five calls each time until 1 is suspected and has cleared itself.
        x = new RumourCircle(2);
        for (int i = 1; i <= 102; i++) {
            Run.on(x, "p0 l0 p0 d0 d0");
        }
        check.due("incarnation(1, 1), call 511", x.incarnation(1, 1), 102);
        check.due("incarnation(0, 1), call 512", x.incarnation(0, 1), 102);
    }
}
