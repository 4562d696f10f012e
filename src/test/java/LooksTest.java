/** Promises 8 to 18: what the calls that change nothing answer. */
public final class LooksTest {
    private static final int NONE = RumourCircle.NONE;
    private static final int ALIVE = RumourCircle.ALIVE;
    private static final int SUSPECT = RumourCircle.SUSPECT;
    private static final int FAULTY = RumourCircle.FAULTY;
    private static final int[] NO_NODES = {-1, -2, 3, 4, 6, 8, 64, Integer.MIN_VALUE, Integer.MAX_VALUE};

    private static final Check check = new Check();

    public static void main(String[] args) {
        isUp();
        status();
        incarnation();
        timer();
        probe();
        sent();
        sentOrder();
        flying();
        message();
        news();
        declared();
        doubted();
        changesNothing();
        check.end();
    }

    private static void periodsUnheard(RumourCircle x, int a, int count) {
        for (int i = 0; i < count; i++) {
            x.period(a);
            x.lose(x.flying() - 1);
        }
    }

    /** Three nodes: for 0 after five periods unheard, 1 is FAULTY and 2 SUSPECT with timer 2. */
    private static RumourCircle lonely() {
        RumourCircle x = new RumourCircle(3);
        periodsUnheard(x, 0, 5);
        return x;
    }

    private static void isUp() {
        check.part("promise 8");
        RumourCircle x = new RumourCircle(3);
        x.stop(1);
        check.due("isUp(0)", x.isUp(0), true);
        check.due("isUp(1)", x.isUp(1), false);
        check.due("isUp(2)", x.isUp(2), true);
        for (int a : NO_NODES) {
            check.due("isUp(" + a + ")", x.isUp(a), false);
        }
        // To be FAULTY for others is not to be down.
        check.due("isUp(1) of a FAULTY one", lonely().isUp(1), true);
    }

    private static void status() {
        check.part("promise 9");
        RumourCircle x = lonely();
        for (int round = 0; round < 2; round++) {
            check.due("status(0, 0)", x.status(0, 0), ALIVE);
            check.due("status(0, 1)", x.status(0, 1), FAULTY);
            check.due("status(0, 2)", x.status(0, 2), SUSPECT);
            check.due("status(1, 0)", x.status(1, 0), ALIVE);
            check.due("status(1, 1)", x.status(1, 1), ALIVE);
            // The same when 0 is down.
            x.stop(0);
        }
        for (int a : NO_NODES) {
            check.due("status(" + a + ", 0)", x.status(a, 0), NONE);
            check.due("status(0, " + a + ")", x.status(0, a), NONE);
            check.due("status(" + a + ", " + a + ")", x.status(a, a), NONE);
        }
    }

    private static void incarnation() {
        check.part("promise 10");
        RumourCircle x = new RumourCircle(3);
        periodsUnheard(x, 0, 2);
        x.period(0);
        check.due("deliver(0)", x.deliver(0), 1);
        check.due("incarnation(1, 1)", x.incarnation(1, 1), 1);
        check.due("incarnation(0, 1)", x.incarnation(0, 1), 0);
        check.due("incarnation(2, 1)", x.incarnation(2, 1), 0);
        check.due("deliver(0)", x.deliver(0), 2);
        check.due("incarnation(0, 1)", x.incarnation(0, 1), 1);
        check.due("incarnation(0, 0)", x.incarnation(0, 0), 0);
        x.stop(0);
        check.due("incarnation(0, 1) of one that is down", x.incarnation(0, 1), 1);
        for (int a : NO_NODES) {
            check.due("incarnation(" + a + ", 0)", x.incarnation(a, 0), NONE);
            check.due("incarnation(0, " + a + ")", x.incarnation(0, a), NONE);
            check.due("incarnation(" + a + ", " + a + ")", x.incarnation(a, a), NONE);
        }
    }

    private static void timer() {
        check.part("promise 11");
        RumourCircle x = new RumourCircle(3);
        int[] one = {0, 0, 1, 2, 0, 0};
        int[] two = {0, 0, 0, 1, 2, 0};
        for (int i = 0; i < one.length; i++) {
            periodsUnheard(x, 0, 1);
            check.due("timer(0, 1) after " + (i + 1), x.timer(0, 1), one[i]);
            check.due("timer(0, 2) after " + (i + 1), x.timer(0, 2), two[i]);
            check.due("timer(0, 0)", x.timer(0, 0), 0);
            check.due("timer(1, 0)", x.timer(1, 0), 0);
        }
        x = lonely();
        x.stop(0);
        check.due("timer(0, 2) of one that is down", x.timer(0, 2), 2);
        for (int a : NO_NODES) {
            check.due("timer(" + a + ", 2)", x.timer(a, 2), 0);
            check.due("timer(0, " + a + ")", x.timer(0, a), 0);
            check.due("timer(" + a + ", " + a + ")", x.timer(a, a), 0);
        }
    }

    private static void probe() {
        check.part("promise 12");
        RumourCircle x = new RumourCircle(3);
        check.due("probe(2)", x.probe(2), NONE);
        x.period(2);
        check.due("probe(2)", x.probe(2), 0);
        x.deliver(0);
        check.due("probe(2)", x.probe(2), 0);
        x.deliver(0);
        check.due("probe(2)", x.probe(2), 8);
        check.due("probe(0)", x.probe(0), NONE);
        x.stop(2);
        check.due("probe(2) of one that is down", x.probe(2), 8);
        for (int a : NO_NODES) {
            check.due("probe(" + a + ")", x.probe(a), NONE);
        }
        RumourCircle six = new RumourCircle(6);
        six.round();
        check.due("probe(4)", six.probe(4), 13);
        RumourCircle two = new RumourCircle(2);
        periodsUnheard(two, 0, 4);
        check.due("probe(0)", two.probe(0), 1);
        two.period(0);
        check.due("probe(0)", two.probe(0), NONE);
    }

    private static void sent() {
        check.part("promise 13");
        RumourCircle x = new RumourCircle(6);
        periodsUnheard(x, 0, 1);
        check.due("sent(0, 1)", x.sent(0, 1), NONE);
        periodsUnheard(x, 0, 1);
        check.due("sent(0, 1)", x.sent(0, 1), 1);
        x.help(0);
        check.due("sent(0, 1)", x.sent(0, 1), 3);
        x.help(0);
        check.due("sent(0, 1)", x.sent(0, 1), 5);
        // The sixth time is the last: the second REQUEST goes without it.
        x.help(0);
        check.due("sent(0, 1)", x.sent(0, 1), NONE);
        check.due("news(4, 0)", x.news(4, 0), 5);
        check.due("news(5, 0)", x.news(5, 0), NONE);
        check.due("sent(0, 2)", x.sent(0, 2), NONE);
        // New news about the same node: from the start.
        periodsUnheard(x, 0, 3);
        check.due("status(0, 1)", x.status(0, 1), FAULTY);
        check.due("sent(0, 1)", x.sent(0, 1), 1);
        x.stop(0);
        check.due("sent(0, 1) of one that is down", x.sent(0, 1), 1);
        int[] none = {-1, 6, 7, Integer.MIN_VALUE, Integer.MAX_VALUE};
        for (int a : none) {
            check.due("sent(" + a + ", 1)", x.sent(a, 1), NONE);
            check.due("sent(0, " + a + ")", x.sent(0, a), NONE);
        }
        // In place of the older one: its count begins anew.
        RumourCircle two = new RumourCircle(2);
        periodsUnheard(two, 0, 4);
        check.due("sent(0, 1)", two.sent(0, 1), 3);
        two.period(0);
        check.due("sent(0, 1)", two.sent(0, 1), 0);
        // News of itself stands in the buffer too.
        two = new RumourCircle(2);
        periodsUnheard(two, 0, 1);
        two.period(0);
        two.deliver(0);
        check.due("sent(1, 1)", two.sent(1, 1), 1);
        check.due("sent(1, 0)", two.sent(1, 0), NONE);
    }

    private static void sentOrder() {
        check.part("promise 13, the order");
        RumourCircle x = new RumourCircle(5);
        periodsUnheard(x, 0, 4);
        // Suspected one after the other: 1 was sent with two PINGs, 2 with two, 3 with one.
        check.due("sent(0, 1)", x.sent(0, 1), 2);
        check.due("sent(0, 2)", x.sent(0, 2), 2);
        check.due("sent(0, 3)", x.sent(0, 3), 1);
        x.help(0);
        check.due("news(0, 0)", x.news(0, 0), 13);
        check.due("news(0, 1)", x.news(0, 1), 5);
        check.due("news(1, 0)", x.news(1, 0), 9);
        check.due("news(1, 1)", x.news(1, 1), 13);
        check.due("sent(0, 1)", x.sent(0, 1), 3);
        check.due("sent(0, 2)", x.sent(0, 2), 3);
        check.due("sent(0, 3)", x.sent(0, 3), 3);
        // All equal: the least numbers first.
        x.help(0);
        check.due("news(2, 0)", x.news(2, 0), 5);
        check.due("news(2, 1)", x.news(2, 1), 9);
        check.due("news(3, 0)", x.news(3, 0), 13);
        check.due("news(3, 1)", x.news(3, 1), 5);
    }

    private static void flying() {
        check.part("promise 14");
        RumourCircle x = new RumourCircle(6);
        check.due("flying()", x.flying(), 0);
        for (int i = 0; i < 30; i++) {
            x.period(i % 6);
            check.due("flying() after " + (i + 1), x.flying(), Math.min(24, i + 1));
        }
        x.lose(5);
        check.due("flying()", x.flying(), 23);
        x.deliver(0);
        check.due("flying()", x.flying(), 23);
        x.round();
        check.due("flying()", x.flying(), 0);
    }

    private static void message() {
        check.part("promise 15");
        RumourCircle x = new RumourCircle(6);
        check.due("message(0)", x.message(0), NONE);
        periodsUnheard(x, 5, 4);
        x.help(5);
        // REQUEST from 5 to 4 about 3 with two news, then to 0.
        check.due("message(0)", x.message(0), 3 * 4096 + 5 * 512 + 4 * 64 + 3 * 8 + 2);
        check.due("message(1)", x.message(1), 3 * 4096 + 5 * 512 + 3 * 8 + 2);
        x.deliver(0);
        check.due("message(0)", x.message(0), 3 * 4096 + 5 * 512 + 3 * 8 + 2);
        check.due("message(1)", x.message(1), 4096 + 4 * 512 + 3 * 64 + 3 * 8 + 2);
        x.deliver(1);
        check.due("message(1)", x.message(1), 2 * 4096 + 3 * 512 + 4 * 64 + 3 * 8 + 2);
        int[] none = {-1, 2, 3, 23, 24, 25, Integer.MIN_VALUE, Integer.MAX_VALUE};
        for (int k : none) {
            check.due("message(" + k + ")", x.message(k), NONE);
        }
    }

    private static void news() {
        check.part("promise 16");
        RumourCircle x = new RumourCircle(2);
        check.due("news(0, 0)", x.news(0, 0), NONE);
        x.period(0);
        check.due("news(0, 0)", x.news(0, 0), NONE);
        // Again and again 0 suspects 1, and 1 clears itself: the incarnations 1, 2 and so on.
        for (int i = 0; i < 50; i++) {
            x.lose(0);
            x.period(0);
            check.due("news(0, 0)", x.news(0, 0), 5 + 64L * i);
            check.due("news(0, 1)", x.news(0, 1), NONE);
            x.deliver(0);
            check.due("news(0, 0)", x.news(0, 0), 4 + 64L * (i + 1));
            x.deliver(0);
            check.due("incarnation(0, 1)", x.incarnation(0, 1), i + 1);
            x.period(0);
        }
        RumourCircle y = new RumourCircle(3);
        periodsUnheard(y, 0, 4);
        y.period(0);
        check.due("news(0, 0)", y.news(0, 0), 4 + 2);
        check.due("news(0, 1)", y.news(0, 1), 8 + 1);
        int[] none = {-1, 2, 3, Integer.MIN_VALUE, Integer.MAX_VALUE};
        for (int j : none) {
            check.due("news(0, " + j + ")", y.news(0, j), NONE);
            check.due("news(" + j + ", 0)", y.news(j, 0), NONE);
        }
        check.due("news(1, 0)", y.news(1, 0), NONE);
        // What flies stays as it was when it was sent.
        y.period(0);
        check.due("status(0, 2)", y.status(0, 2), FAULTY);
        check.due("news(0, 1)", y.news(0, 1), 8 + 1);
    }

    private static void declared() {
        check.part("promise 17");
        RumourCircle x = new RumourCircle(3);
        check.due("declared(1)", x.declared(1), 0);
        periodsUnheard(x, 0, 4);
        check.due("declared(1) of a SUSPECT one", x.declared(1), 0);
        x.period(0);
        check.due("declared(1)", x.declared(1), 1);
        x.deliver(0);
        check.due("declared(1)", x.declared(1), 2);
        check.due("declared(0)", x.declared(0), 0);
        check.due("declared(2)", x.declared(2), 0);
        // Whether 1 itself is up is all the same; those who are down do not count.
        x.stop(1);
        check.due("declared(1)", x.declared(1), 2);
        x.stop(0);
        check.due("declared(1)", x.declared(1), 1);
        x.stop(2);
        check.due("declared(1)", x.declared(1), 0);
        for (int m : NO_NODES) {
            check.due("declared(" + m + ")", x.declared(m), NONE);
        }
    }

    private static void doubted() {
        check.part("promise 18");
        RumourCircle x = lonely();
        check.due("doubted()", x.doubted(), 2);
        x.stop(1);
        check.due("doubted()", x.doubted(), 1);
        x.stop(0);
        check.due("doubted()", x.doubted(), 0);
        // A pair counts in each direction.
        x = new RumourCircle(2);
        periodsUnheard(x, 0, 2);
        check.due("doubted()", x.doubted(), 1);
        periodsUnheard(x, 1, 2);
        check.due("doubted()", x.doubted(), 2);
        periodsUnheard(x, 1, 3);
        check.due("declared(0)", x.declared(0), 1);
        check.due("doubted()", x.doubted(), 2);
    }

    private static void changesNothing() {
        check.part("promises 8 to 18, no change");
        RumourCircle x = lonely();
        x.period(0);
        String before = Snapshot.of(x);
        check.due("all looks again", Snapshot.of(x), before);
    }
}
