/** Promises 1 to 7: what is made and what changes. */
public final class ActsTest {
    private static final int NONE = RumourCircle.NONE;
    private static final int ALIVE = RumourCircle.ALIVE;
    private static final int SUSPECT = RumourCircle.SUSPECT;
    private static final int FAULTY = RumourCircle.FAULTY;
    private static final int PING = 1;
    private static final int ACK = 2;
    private static final int REQUEST = 3;
    private static final int[] NO_NODES = {-1, -2, 6, 7, 8, 64, Integer.MIN_VALUE, Integer.MAX_VALUE};

    private static final Check check = new Check();

    public static void main(String[] args) {
        newObject();
        periodGoesRound();
        periodSuspectsAndDeclares();
        periodWithAnswers();
        periodOfAnOldNumber();
        periodWithoutTarget();
        periodRefused();
        helpOrder();
        helpWithoutFaulty();
        helpAboutFaultyTarget();
        helpWithoutRoom();
        helpRefused();
        deliverChain();
        deliverFromTheMiddle();
        deliverToDownNode();
        deliverWithFullRow();
        deliverRefused();
        hearOfItself();
        hearOlderSuspicion();
        hearAliveAgain();
        hearFaulty();
        hearSuspicionOfSuspect();
        lose();
        round();
        stop();
        readme();
        check.end();
    }

    /** Delivers the oldest message until none flies. */
    private static void deliverAll(RumourCircle x) {
        for (int i = 0; i < 100 && x.flying() > 0; i++) {
            x.deliver(0);
        }
    }

    /** Node a makes periods whose messages are lost. */
    private static void periodsUnheard(RumourCircle x, int a, int count) {
        for (int i = 0; i < count; i++) {
            x.period(a);
            x.lose(x.flying() - 1);
        }
    }

    private static void newObject() {
        check.part("promise 1");
        int[][] sizes = {{2, 2}, {3, 3}, {4, 4}, {5, 5}, {6, 6}, {1, 4}, {0, 4}, {-1, 4}, {7, 4}, {-3, 4},
            {8, 4}, {100, 4}, {Integer.MIN_VALUE, 4}, {Integer.MAX_VALUE, 4}};
        for (int[] size : sizes) {
            RumourCircle x = new RumourCircle(size[0]);
            int n = size[1];
            for (int a = 0; a < 8; a++) {
                check.due("isUp(" + a + ") of " + size[0], x.isUp(a), a < n);
                check.due("probe(" + a + ") of " + size[0], x.probe(a), NONE);
                for (int m = 0; m < 8; m++) {
                    int due = a < n && m < n ? 0 : NONE;
                    check.due("status(" + a + ", " + m + ") of " + size[0], x.status(a, m), due);
                    check.due("incarnation(" + a + ", " + m + ") of " + size[0], x.incarnation(a, m), due);
                    check.due("timer(" + a + ", " + m + ") of " + size[0], x.timer(a, m), 0);
                    check.due("sent(" + a + ", " + m + ") of " + size[0], x.sent(a, m), NONE);
                }
            }
            check.due("flying() of " + size[0], x.flying(), 0);
            check.due("doubted() of " + size[0], x.doubted(), 0);
            // The first target of the last node is 0: its last target was itself.
            check.due("period(" + (n - 1) + ") of " + size[0], x.period(n - 1), 0);
        }
        RumourCircle one = new RumourCircle(3);
        RumourCircle other = new RumourCircle(3);
        one.stop(0);
        one.period(1);
        check.due("another object", Snapshot.of(other), Snapshot.of(new RumourCircle(3)));
    }

    private static void periodGoesRound() {
        check.part("promise 2, the circle");
        for (int n = 2; n <= 6; n++) {
            RumourCircle x = new RumourCircle(n);
            for (int a = 0; a < n; a++) {
                int due = a;
                for (int i = 0; i < 2 * n; i++) {
                    due = (due + 1) % n == a ? (due + 2) % n : (due + 1) % n;
                    check.due("period(" + a + ") of " + n, x.period(a), due);
                    check.due("probe(" + a + ") of " + n, x.probe(a), due);
                    check.due("message(0)", x.message(0), Check.packed(PING, a, due, due, 0));
                    x.deliver(0);
                    x.deliver(0);
                    check.due("probe(" + a + ") of " + n, x.probe(a), due + 8);
                }
            }
            check.due("doubted()", x.doubted(), 0);
        }
    }

    private static void periodSuspectsAndDeclares() {
        check.part("promise 2, no answers");
        RumourCircle x = new RumourCircle(4);
        int[] targets = {3, 0, 1, 3, 0, 1, NONE, NONE};
        // status * 10 + timer of the nodes 3, 0 and 1 in the view of 2 after each period
        int[][] views = {{0, 0, 0}, {10, 0, 0}, {11, 10, 0}, {12, 11, 10}, {20, 12, 11}, {20, 20, 12},
            {20, 20, 20}, {20, 20, 20}};
        for (int i = 0; i < targets.length; i++) {
            check.due("period(2)", x.period(2), targets[i]);
            check.due("probe(2)", x.probe(2), targets[i]);
            check.dueView(x, 2, 3, views[i][0] / 10, 0, views[i][0] % 10);
            check.dueView(x, 2, 0, views[i][1] / 10, 0, views[i][1] % 10);
            check.dueView(x, 2, 1, views[i][2] / 10, 0, views[i][2] % 10);
        }
        // The news, those sent least often first, with each PING.
        long[][] news = {
            {NONE, NONE},
            {Check.packedNews(3, SUSPECT, 0), NONE},
            {Check.packedNews(0, SUSPECT, 0), Check.packedNews(3, SUSPECT, 0)},
            {Check.packedNews(1, SUSPECT, 0), Check.packedNews(0, SUSPECT, 0)},
            {Check.packedNews(3, FAULTY, 0), Check.packedNews(1, SUSPECT, 0)},
            {Check.packedNews(0, FAULTY, 0), Check.packedNews(3, FAULTY, 0)},
        };
        check.due("flying()", x.flying(), 6);
        for (int k = 0; k < news.length; k++) {
            int count = news[k][0] == NONE ? 0 : news[k][1] == NONE ? 1 : 2;
            check.due("message(" + k + ")", x.message(k), Check.packed(PING, 2, targets[k], targets[k], count));
            check.due("news(" + k + ", 0)", x.news(k, 0), news[k][0]);
            check.due("news(" + k + ", 1)", x.news(k, 1), news[k][1]);
        }
        check.due("sent(2, 1)", x.sent(2, 1), 0);
        check.due("sent(2, 0)", x.sent(2, 0), 1);
        check.due("sent(2, 3)", x.sent(2, 3), 2);
        check.due("declared(3)", x.declared(3), 1);
    }

    private static void periodWithAnswers() {
        check.part("promise 2, one answers and one does not");
        RumourCircle x = new RumourCircle(3);
        x.stop(2);
        int[] targets = {1, 2, 1, 2, 1, 1, 1};
        int[] views = {0, 0, 10, 11, 12, 20, 20};
        for (int i = 0; i < targets.length; i++) {
            check.due("period(0)", x.period(0), targets[i]);
            check.dueView(x, 0, 2, views[i] / 10, 0, views[i] % 10);
            deliverAll(x);
            check.dueView(x, 0, 1, ALIVE, 0, 0);
        }
    }

    private static void periodOfAnOldNumber() {
        check.part("promise 2 and 4, the number of a probe");
        RumourCircle x = new RumourCircle(2);
        x.period(0);
        x.period(0);
        x.deliver(0);
        check.due("message(1)", x.message(1), Check.packed(ACK, 1, 0, 1, 0));
        check.due("deliver(1)", x.deliver(1), ACK);
        check.due("probe(0)", x.probe(0), 1);
        x.deliver(0);
        check.due("deliver(0)", x.deliver(0), ACK);
        check.due("probe(0)", x.probe(0), 9);
        x.period(0);
        check.due("probe(0)", x.probe(0), 1);
    }

    private static void periodWithoutTarget() {
        check.part("promise 2, no target");
        RumourCircle x = new RumourCircle(2);
        for (int i = 0; i < 4; i++) {
            check.due("period(0)", x.period(0), 1);
        }
        check.dueView(x, 0, 1, SUSPECT, 0, 2);
        check.due("period(0)", x.period(0), NONE);
        check.due("flying()", x.flying(), 4);
        check.dueView(x, 0, 1, FAULTY, 0, 0);
        // The ACK has the number of the latest probe, but there is no probe any more.
        x.deliver(3);
        check.due("news(3, 0)", x.news(3, 0), Check.packedNews(1, ALIVE, 1));
        x.deliver(3);
        check.due("probe(0)", x.probe(0), NONE);
        check.due("help(0)", x.help(0), NONE);
        check.dueView(x, 0, 1, FAULTY, 0, 0);
    }

    private static void periodRefused() {
        check.part("promise 2, refused");
        RumourCircle x = new RumourCircle(6);
        periodsUnheard(x, 1, 3);
        x.stop(1);
        String before = Snapshot.of(x);
        check.due("period(1)", x.period(1), NONE);
        for (int a : NO_NODES) {
            check.due("period(" + a + ")", x.period(a), NONE);
        }
        check.due("what is left", Snapshot.of(x), before);
        check.due("period(2) of two", new RumourCircle(2).period(2), NONE);
    }

    private static void helpOrder() {
        check.part("promise 3, the order");
        RumourCircle x = new RumourCircle(6);
        x.period(4);
        check.due("help(4)", x.help(4), 2);
        check.due("message(1)", x.message(1), Check.packed(REQUEST, 4, 0, 5, 0));
        check.due("message(2)", x.message(2), Check.packed(REQUEST, 4, 1, 5, 0));
        // It may ask again.
        check.due("help(4)", x.help(4), 2);
        check.due("flying()", x.flying(), 5);
        check.due("probe(4)", x.probe(4), 5);

        x = new RumourCircle(4);
        periodsUnheard(x, 0, 3);
        // Suspects may help; 0 itself is passed over.
        check.due("help(0)", x.help(0), 2);
        check.due("message(0)", x.message(0), Check.packed(REQUEST, 0, 1, 3, 2));
        check.due("message(1)", x.message(1), Check.packed(REQUEST, 0, 2, 3, 2));
        // In the buffer before: 1 sent twice, 2 sent once.
        check.due("news(0, 0)", x.news(0, 0), Check.packedNews(2, SUSPECT, 0));
        check.due("news(0, 1)", x.news(0, 1), Check.packedNews(1, SUSPECT, 0));
        check.due("sent(0, 1)", x.sent(0, 1), 4);
        check.due("sent(0, 2)", x.sent(0, 2), 3);
    }

    private static void helpWithoutFaulty() {
        check.part("promise 3, faulty ones");
        RumourCircle x = new RumourCircle(4);
        periodsUnheard(x, 0, 5);
        check.due("probe(0)", x.probe(0), 2);
        check.due("status(0, 1)", x.status(0, 1), FAULTY);
        check.due("help(0)", x.help(0), 1);
        check.due("message(0)", x.message(0), Check.packed(REQUEST, 0, 3, 2, 2));
        x.lose(0);
        periodsUnheard(x, 0, 1);
        check.due("probe(0)", x.probe(0), 3);
        check.due("help(0)", x.help(0), 0);
        check.due("flying()", x.flying(), 0);
        RumourCircle two = new RumourCircle(2);
        two.period(1);
        check.due("help(1) of two", two.help(1), 0);
        check.due("flying() of two", two.flying(), 1);
    }

    /** Of three nodes, 1 is down and FAULTY in the view of 2, whose PING to 0 flies with that news. */
    private static RumourCircle faultyNewsFlies() {
        RumourCircle x = new RumourCircle(3);
        x.stop(1);
        for (int i = 0; i < 5; i++) {
            x.period(2);
            deliverAll(x);
        }
        check.due("period(2)", x.period(2), 0);
        check.due("news(0, 0)", x.news(0, 0), Check.packedNews(1, FAULTY, 0));
        return x;
    }

    private static void helpAboutFaultyTarget() {
        check.part("promise 3, a target that became faulty");
        RumourCircle x = faultyNewsFlies();
        check.due("period(0)", x.period(0), 1);
        x.deliver(0);
        check.dueView(x, 0, 1, FAULTY, 0, 0);
        check.due("probe(0)", x.probe(0), 1);
        int flying = x.flying();
        check.due("help(0)", x.help(0), 1);
        check.due("the request", x.message(flying), Check.packed(REQUEST, 0, 2, 1, 1));
        check.due("period(0)", x.period(0), 2);
        check.dueView(x, 0, 1, FAULTY, 0, 0);
    }

    private static void helpWithoutRoom() {
        check.part("promise 3, no room");
        RumourCircle x = new RumourCircle(6);
        x.period(0);
        for (int i = 0; i < 11; i++) {
            check.due("help(0)", x.help(0), 2);
        }
        check.due("flying()", x.flying(), 23);
        check.due("help(0)", x.help(0), 2);
        check.due("flying()", x.flying(), 24);
        check.due("message(23)", x.message(23), Check.packed(REQUEST, 0, 2, 1, 0));
        check.due("help(0)", x.help(0), 2);
        check.due("flying()", x.flying(), 24);
        check.due("period(0)", x.period(0), 2);
        check.due("flying()", x.flying(), 24);
        // The news of the lost PING and the lost REQUESTs counts as sent.
        check.due("sent(0, 1)", x.sent(0, 1), 1);
        check.due("help(0)", x.help(0), 2);
        check.due("sent(0, 1)", x.sent(0, 1), 3);
        check.due("message(23)", x.message(23), Check.packed(REQUEST, 0, 2, 1, 0));
    }

    private static void helpRefused() {
        check.part("promise 3, refused");
        RumourCircle x = new RumourCircle(3);
        String before = Snapshot.of(x);
        check.due("help(0) without a probe", x.help(0), NONE);
        for (int a : NO_NODES) {
            check.due("help(" + a + ")", x.help(a), NONE);
        }
        check.due("what is left", Snapshot.of(x), before);
        x.period(0);
        deliverAll(x);
        x.period(1);
        x.stop(1);
        before = Snapshot.of(x);
        check.due("help(0) with an answer", x.help(0), NONE);
        check.due("help(1) of a node that is down", x.help(1), NONE);
        check.due("help(3)", x.help(3), NONE);
        check.due("what is left", Snapshot.of(x), before);
    }

    private static void deliverChain() {
        check.part("promise 4, a request's way");
        RumourCircle x = new RumourCircle(5);
        x.period(3);
        x.lose(0);
        x.help(3);
        check.due("message(0)", x.message(0), Check.packed(REQUEST, 3, 0, 4, 0));
        check.due("message(1)", x.message(1), Check.packed(REQUEST, 3, 1, 4, 0));
        check.due("deliver(1)", x.deliver(1), REQUEST);
        check.due("message(1)", x.message(1), Check.packed(PING, 1, 4, 4, 0));
        check.due("deliver(1)", x.deliver(1), PING);
        check.due("message(1)", x.message(1), Check.packed(ACK, 4, 1, 4, 0));
        check.due("deliver(1)", x.deliver(1), ACK);
        check.due("message(1)", x.message(1), Check.packed(ACK, 1, 3, 4, 0));
        check.due("probe(1)", x.probe(1), NONE);
        check.due("probe(3)", x.probe(3), 4);
        check.due("deliver(1)", x.deliver(1), ACK);
        check.due("probe(3)", x.probe(3), 12);
        check.due("flying()", x.flying(), 1);
        // The second answer changes nothing.
        deliverAll(x);
        check.due("probe(3)", x.probe(3), 12);
        // A helper's own probe with the same number is not answered by an ACK that it passes on.
        x = new RumourCircle(4);
        x.period(0);
        x.period(2);
        x.help(0);
        check.due("message(2)", x.message(2), Check.packed(REQUEST, 0, 2, 1, 0));
        x.deliver(2);
        x.deliver(3);
        check.due("message(3)", x.message(3), Check.packed(ACK, 1, 2, 1, 0));
        x.deliver(3);
        check.due("probe(2)", x.probe(2), 3);
        check.due("message(3)", x.message(3), Check.packed(ACK, 2, 0, 1, 0));
    }

    private static void deliverFromTheMiddle() {
        check.part("promise 4, the row");
        RumourCircle x = new RumourCircle(6);
        x.period(0);
        x.period(1);
        x.period(2);
        check.due("deliver(1)", x.deliver(1), PING);
        check.due("flying()", x.flying(), 3);
        check.due("message(0)", x.message(0), Check.packed(PING, 0, 1, 1, 0));
        check.due("message(1)", x.message(1), Check.packed(PING, 2, 3, 3, 0));
        check.due("message(2)", x.message(2), Check.packed(ACK, 2, 1, 2, 0));
        check.due("deliver(2)", x.deliver(2), ACK);
        check.due("flying()", x.flying(), 2);
        check.due("probe(1)", x.probe(1), 10);
        check.due("probe(0)", x.probe(0), 1);
    }

    private static void deliverToDownNode() {
        check.part("promise 4, a node that is down");
        RumourCircle x = new RumourCircle(3);
        periodsUnheard(x, 0, 1);
        x.period(0);
        check.due("message(0)", x.message(0), Check.packed(PING, 0, 2, 2, 1));
        x.stop(2);
        check.due("deliver(0)", x.deliver(0), PING);
        check.due("flying()", x.flying(), 0);
        check.dueView(x, 2, 1, ALIVE, 0, 0);
        check.due("sent(2, 1)", x.sent(2, 1), NONE);
        // An answer to a node that has stopped meanwhile.
        x = new RumourCircle(2);
        x.period(0);
        x.stop(0);
        check.due("deliver(0)", x.deliver(0), PING);
        check.due("message(0)", x.message(0), Check.packed(ACK, 1, 0, 1, 0));
        check.due("deliver(0)", x.deliver(0), ACK);
        check.due("probe(0)", x.probe(0), 1);
    }

    private static void deliverWithFullRow() {
        check.part("promise 4, a full row");
        RumourCircle x = new RumourCircle(6);
        x.period(0);
        for (int i = 0; i < 12; i++) {
            x.help(0);
        }
        check.due("flying()", x.flying(), 24);
        // What arrives leaves its place to the message that it causes.
        check.due("deliver(0)", x.deliver(0), PING);
        check.due("flying()", x.flying(), 24);
        check.due("message(23)", x.message(23), Check.packed(ACK, 1, 0, 1, 0));
        check.due("deliver(23)", x.deliver(23), ACK);
        check.due("flying()", x.flying(), 23);
        check.due("probe(0)", x.probe(0), 9);
    }

    private static void deliverRefused() {
        check.part("promise 4, refused");
        int[] none = {-1, 1, 2, 24, 25, Integer.MIN_VALUE, Integer.MAX_VALUE};
        RumourCircle x = new RumourCircle(3);
        check.due("deliver(0)", x.deliver(0), NONE);
        x.period(0);
        String before = Snapshot.of(x);
        for (int k : none) {
            check.due("deliver(" + k + ")", x.deliver(k), NONE);
        }
        check.due("what is left", Snapshot.of(x), before);
    }

    private static void hearOfItself() {
        check.part("promise 4, news about the hearer");
        RumourCircle x = new RumourCircle(3);
        for (int i = 0; i < 5; i++) {
            x.period(0);
        }
        check.due("message(4)", x.message(4), Check.packed(PING, 0, 2, 2, 2));
        check.due("news(4, 0)", x.news(4, 0), Check.packedNews(1, FAULTY, 0));
        x.deliver(4);
        // The ACK of 2 tells 1 that it is FAULTY.
        x.period(1);
        x.deliver(5);
        check.due("message(5)", x.message(5), Check.packed(ACK, 2, 1, 2, 2));
        check.due("news(5, 0)", x.news(5, 0), Check.packedNews(1, FAULTY, 0));
        x.deliver(5);
        check.due("incarnation(1, 1)", x.incarnation(1, 1), 1);
        check.due("status(1, 1)", x.status(1, 1), ALIVE);
        check.due("sent(1, 1)", x.sent(1, 1), 0);
        check.due("period(1)", x.period(1), 0);
        check.due("news(5, 0)", x.news(5, 0), Check.packedNews(1, ALIVE, 1));
        // The ACK of 0 says the same, with a lower incarnation than 1 has now: nothing.
        x.deliver(5);
        check.due("message(5)", x.message(5), Check.packed(ACK, 0, 1, 0, 2));
        check.due("news(5, 0)", x.news(5, 0), Check.packedNews(2, ALIVE, 1));
        check.due("news(5, 1)", x.news(5, 1), Check.packedNews(1, FAULTY, 0));
        x.deliver(5);
        check.due("incarnation(1, 1)", x.incarnation(1, 1), 1);
        check.due("sent(1, 1)", x.sent(1, 1), 1);
        // An older SUSPECT does nothing either.
        check.due("message(2)", x.message(2), Check.packed(PING, 0, 1, 1, 2));
        check.due("news(2, 1)", x.news(2, 1), Check.packedNews(1, SUSPECT, 0));
        x.deliver(2);
        check.due("incarnation(1, 1)", x.incarnation(1, 1), 1);

        x = new RumourCircle(2);
        for (int i = 0; i < 4; i++) {
            x.period(0);
        }
        x.deliver(1);
        x.deliver(1);
        check.due("incarnation(1, 1) by suspicion of 0", x.incarnation(1, 1), 1);
        // ALIVE with the higher incarnation clears 1; a new suspicion then has incarnation 1.
        check.due("news(2, 0)", x.news(2, 0), Check.packedNews(1, ALIVE, 1));
        x.deliver(2);
        check.dueView(x, 0, 1, ALIVE, 1, 0);
        x.period(0);
        check.dueView(x, 0, 1, SUSPECT, 1, 0);
        check.due("its news", x.news(x.flying() - 1, 0), Check.packedNews(1, SUSPECT, 1));
        x.deliver(x.flying() - 1);
        check.due("incarnation(1, 1)", x.incarnation(1, 1), 2);
        check.due("sent(1, 1)", x.sent(1, 1), 1);
        // News that 1 is ALIVE, from 0 to 1, leaves 1 as it is.
        x.deliver(x.flying() - 1);
        check.dueView(x, 0, 1, ALIVE, 2, 0);
        x.period(0);
        check.due("its news", x.news(x.flying() - 1, 0), Check.packedNews(1, ALIVE, 2));
        x.deliver(x.flying() - 1);
        check.due("incarnation(1, 1)", x.incarnation(1, 1), 2);
    }

    /** Of three nodes, 0 has 1 as ALIVE with 1, and 2 has 1 as SUSPECT with 0; nothing flies. */
    private static RumourCircle clearedForOne() {
        RumourCircle x = new RumourCircle(3);
        periodsUnheard(x, 0, 1);
        x.period(0);
        deliverAll(x);
        x.period(0);
        deliverAll(x);
        check.dueView(x, 0, 1, ALIVE, 1, 0);
        check.dueView(x, 2, 1, SUSPECT, 0, 0);
        check.due("incarnation(1, 1)", x.incarnation(1, 1), 1);
        return x;
    }

    private static void hearOlderSuspicion() {
        check.part("promise 4, an older suspicion");
        RumourCircle x = clearedForOne();
        int sent = x.sent(0, 1);
        check.due("sent(0, 1)", sent, 0);
        check.due("period(2)", x.period(2), 0);
        check.due("news(0, 0)", x.news(0, 0), Check.packedNews(1, SUSPECT, 0));
        x.deliver(0);
        check.dueView(x, 0, 1, ALIVE, 1, 0);
        check.due("sent(0, 1)", x.sent(0, 1), 1);
        check.due("news(0, 0)", x.news(0, 0), Check.packedNews(1, ALIVE, 1));
        check.dueView(x, 2, 1, SUSPECT, 0, 1);
        x.deliver(0);
        check.dueView(x, 2, 1, ALIVE, 1, 0);
        check.due("sent(2, 1)", x.sent(2, 1), 0);
    }

    private static void hearAliveAgain() {
        check.part("promise 4, ALIVE with the same incarnation");
        RumourCircle x = clearedForOne();
        periodsUnheard(x, 0, 2);
        check.due("probe(0)", x.probe(0), 1);
        periodsUnheard(x, 0, 2);
        check.dueView(x, 0, 1, SUSPECT, 1, 1);
        int sent = x.sent(0, 1);
        check.due("period(1)", x.period(1), 2);
        x.lose(0);
        check.due("period(1)", x.period(1), 0);
        check.due("news(0, 1)", x.news(0, 1), Check.packedNews(1, ALIVE, 1));
        x.deliver(0);
        check.dueView(x, 0, 1, SUSPECT, 1, 1);
        check.due("sent(0, 1)", x.sent(0, 1), sent + 1);
        // FAULTY has the incarnation of the suspicion.
        periodsUnheard(x, 0, 2);
        check.dueView(x, 0, 1, FAULTY, 1, 0);
    }

    private static void hearFaulty() {
        check.part("promise 4, FAULTY");
        RumourCircle x = clearedForOne();
        // 2 declares 1 with incarnation 0, and tells 0, which has ALIVE with 1: FAULTY wins.
        for (int i = 0; i < 3; i++) {
            x.period(2);
            check.dueView(x, 2, 1, i == 2 ? FAULTY : SUSPECT, 0, i == 2 ? 0 : i + 1);
            if (i < 2) {
                x.lose(0);
            }
        }
        check.due("message(0)", x.message(0), Check.packed(PING, 2, 0, 0, 2));
        x.deliver(0);
        check.dueView(x, 0, 1, FAULTY, 0, 0);
        check.due("declared(1)", x.declared(1), 2);
        x.lose(0);
        // It is for good: ALIVE with a higher incarnation changes nothing.
        x.period(1);
        x.period(1);
        check.due("message(1)", x.message(1), Check.packed(PING, 1, 0, 0, 2));
        x.deliver(1);
        check.dueView(x, 0, 1, FAULTY, 0, 0);
        x = faultyNewsFlies();
        x.deliver(0);
        check.dueView(x, 0, 1, FAULTY, 0, 0);
        check.due("sent(0, 1)", x.sent(0, 1), 1);
        // FAULTY is no news to one that has it: it is not announced again.
        x.deliver(0);
        int sent = x.sent(2, 1);
        x.period(0);
        check.due("news(0, 0)", x.news(0, 0), Check.packedNews(1, FAULTY, 0));
        x.deliver(0);
        check.due("sent(2, 1)", x.sent(2, 1), sent + 1);
    }

    private static void hearSuspicionOfSuspect() {
        check.part("promise 4, SUSPECT to one that suspects");
        // 2 has SUSPECT with 0; it hears SUSPECT with 0 again: nothing, and the timer stays.
        RumourCircle y = new RumourCircle(3);
        periodsUnheard(y, 0, 1);
        y.period(0);
        check.due("message(0)", y.message(0), Check.packed(PING, 0, 2, 2, 1));
        y.deliver(0);
        check.dueView(y, 2, 1, SUSPECT, 0, 0);
        periodsUnheard(y, 2, 1);
        check.dueView(y, 2, 1, SUSPECT, 0, 1);
        int sent = y.sent(2, 1);
        periodsUnheard(y, 0, 1);
        y.period(0);
        check.due("the message", y.message(y.flying() - 1), Check.packed(PING, 0, 2, 2, 2));
        check.due("its news", y.news(y.flying() - 1, 1), Check.packedNews(1, SUSPECT, 0));
        y.deliver(y.flying() - 1);
        check.dueView(y, 2, 1, SUSPECT, 0, 1);
        check.due("sent(2, 1)", y.sent(2, 1), sent + 1);
        // 2 has SUSPECT with 0 and a timer of 1; it hears SUSPECT with 1: newer.
        RumourCircle x = clearedForOne();
        x.period(2);
        x.lose(0);
        check.dueView(x, 2, 1, SUSPECT, 0, 1);
        periodsUnheard(x, 0, 2);
        x.period(0);
        check.dueView(x, 0, 1, SUSPECT, 1, 0);
        check.due("message(0)", x.message(0), Check.packed(PING, 0, 2, 2, 2));
        check.due("news(0, 0)", x.news(0, 0), Check.packedNews(1, SUSPECT, 1));
        x.deliver(0);
        check.dueView(x, 2, 1, SUSPECT, 1, 0);
        check.due("sent(2, 1)", x.sent(2, 1), 1);
    }

    private static void lose() {
        check.part("promise 5");
        RumourCircle x = new RumourCircle(5);
        check.due("lose(0)", x.lose(0), false);
        for (int a = 0; a < 4; a++) {
            x.period(a);
        }
        check.due("lose(2)", x.lose(2), true);
        check.due("flying()", x.flying(), 3);
        check.due("message(1)", x.message(1), Check.packed(PING, 1, 2, 2, 0));
        check.due("message(2)", x.message(2), Check.packed(PING, 3, 4, 4, 0));
        check.due("message(3)", x.message(3), NONE);
        check.due("lose(2)", x.lose(2), true);
        check.due("lose(0)", x.lose(0), true);
        check.due("message(0)", x.message(0), Check.packed(PING, 1, 2, 2, 0));
        String before = Snapshot.of(x);
        int[] none = {-1, 1, 2, 24, 25, Integer.MIN_VALUE, Integer.MAX_VALUE};
        for (int k : none) {
            check.due("lose(" + k + ")", x.lose(k), false);
        }
        check.due("what is left", Snapshot.of(x), before);
        // What is lost is not heard.
        x = new RumourCircle(3);
        periodsUnheard(x, 0, 2);
        check.dueView(x, 2, 1, ALIVE, 0, 0);
        check.due("sent(0, 1)", x.sent(0, 1), 1);
        check.due("flying()", x.flying(), 0);
    }

    private static void round() {
        check.part("promise 6");
        for (int n = 2; n <= 6; n++) {
            RumourCircle x = new RumourCircle(n);
            check.due("round() of " + n, x.round(), 2 * n);
            check.due("flying()", x.flying(), 0);
            for (int a = 0; a < n; a++) {
                check.due("probe(" + a + ") of " + n, x.probe(a), (a + 1) % n + 8);
            }
        }
        RumourCircle x = new RumourCircle(3);
        x.stop(2);
        // PING 0 to 1, PING 1 to 2, ACK 1 to 0; then REQUEST 1 to 0 and PING 0 to 2.
        check.due("round()", x.round(), 5);
        check.due("probe(0)", x.probe(0), 9);
        check.due("probe(1)", x.probe(1), 2);
        check.due("probe(2)", x.probe(2), NONE);
        check.dueView(x, 1, 2, ALIVE, 0, 0);
        // Messages that fly before arrive too, after the periods.
        x = new RumourCircle(2);
        x.period(0);
        check.due("round()", x.round(), 6);
        check.dueView(x, 0, 1, ALIVE, 1, 0);
        check.due("probe(0)", x.probe(0), 9);
        // 0 has stopped with a probe without an answer: it asks for no help. Two PINGs are answered,
        // one to 0 is not, and 2 has the help of 1 about 0: a REQUEST and a PING.
        x = new RumourCircle(3);
        x.period(0);
        x.stop(0);
        check.due("round()", x.round(), 2 * 2 + 1 + 2);
        // Nobody is up: the messages arrive all the same, and nothing comes of it.
        x = new RumourCircle(2);
        x.period(0);
        x.period(1);
        x.stop(0);
        x.stop(1);
        check.due("round()", x.round(), 2);
        check.due("round()", x.round(), 0);
        check.due("probe(0)", x.probe(0), 1);
        // A full row of REQUESTs, each with its PING and two ACKs; the six PINGs have no room.
        x = new RumourCircle(6);
        x.period(0);
        for (int i = 0; i < 12; i++) {
            x.help(0);
        }
        x.lose(0);
        x.help(0);
        check.due("flying()", x.flying(), 24);
        // 24 * 4 arrivals; then each of the six, without an answer, has help of two: 12 * 4.
        check.due("round()", x.round(), 24 * 4 + 12 * 4);
        for (int a = 0; a < 6; a++) {
            check.due("probe(" + a + ") is answered", x.probe(a) >= 8, true);
        }
    }

    private static void stop() {
        check.part("promise 7");
        RumourCircle x = new RumourCircle(3);
        periodsUnheard(x, 1, 1);
        x.period(1);
        String before = Snapshot.of(x);
        for (int a : NO_NODES) {
            check.due("stop(" + a + ")", x.stop(a), false);
        }
        check.due("stop(3)", x.stop(3), false);
        check.due("what is left", Snapshot.of(x), before);
        check.due("stop(1)", x.stop(1), true);
        check.due("isUp(1)", x.isUp(1), false);
        before = Snapshot.of(x);
        check.due("stop(1)", x.stop(1), false);
        check.due("what is left", Snapshot.of(x), before);
        // It keeps what it had, and its message flies on.
        check.dueView(x, 1, 2, SUSPECT, 0, 0);
        check.due("probe(1)", x.probe(1), 0);
        check.due("sent(1, 2)", x.sent(1, 2), 1);
        check.due("deliver(0)", x.deliver(0), PING);
        check.dueView(x, 0, 2, SUSPECT, 0, 0);
        check.due("stop(0)", x.stop(0), true);
        check.due("stop(2)", x.stop(2), true);
    }

    private static void readme() {
        check.part("README.md");
        RumourCircle x = new RumourCircle(3);
        check.due("period(0)", x.period(0), 1);
        check.due("deliver(0)", x.deliver(0), 1);
        check.due("deliver(0)", x.deliver(0), 2);
        check.due("probe(0)", x.probe(0), 9);
        check.due("stop(2)", x.stop(2), true);
        check.due("round()", x.round(), 6);
        check.due("status(1, 2)", x.status(1, 2), ALIVE);
    }
}
