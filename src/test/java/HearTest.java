/**
 * To HEAR news: each case that the document tells apart, by the news, by the view that it meets, and by
 * whether its incarnation is less, the same or greater. Every row is a run on a new object, then one
 * message that arrives with the news.
 */
public final class HearTest {
    private static final int NONE = RumourCircle.NONE;
    private static final int ALIVE = RumourCircle.ALIVE;
    private static final int SUSPECT = RumourCircle.SUSPECT;
    private static final int FAULTY = RumourCircle.FAULTY;

    private static final Check check = new Check();

    public static void main(String[] args) {
        ofItself();
        aliveToAlive();
        aliveToSuspect();
        aliveToFaulty();
        suspectToAlive();
        suspectToSuspect();
        suspectToFaulty();
        faultyToAlive();
        faultyToSuspect();
        faultyToFaulty();
        check.end();
    }

    /** A run, the message k that then arrives at b with news j, which is (m, s, i). */
    private record Case(int n, String run, int k, int j, int b, int m, int s, int i) {
    }

    /** What b has of m: its view, its timer and how often the news in its buffer was sent. */
    private record Had(int status, int incarnation, int timer, int sent) {
    }

    private static void dueHad(Case c, RumourCircle x, Had had) {
        check.dueView(x, c.b, c.m, had.status, had.incarnation, had.timer);
        check.dueSent(x, c.b, c.m, had.sent);
    }

    private static RumourCircle arrived(String title, Case c, Had before, Had after) {
        check.part("HEAR, " + title);
        RumourCircle x = Run.of(c.n, c.run);
        check.due("the receiver", x.message(c.k) / 64 % 8, c.b);
        check.dueNews(x, c.k, c.j, Check.packedNews(c.m, c.s, c.i));
        dueHad(c, x, before);
        x.deliver(c.k);
        dueHad(c, x, after);
        return x;
    }

    /** Whether the news was sent on with an answer to its message, or waits: then it is sent 0 times. */
    private static void newer(String title, Case c, Had before, int sentAfter) {
        RumourCircle x = arrived(title, c, before, new Had(c.s, c.i, 0, sentAfter));
        dueAnnounced(c, x, c.s, c.i, sentAfter);
    }

    private static void dueAnnounced(Case c, RumourCircle x, int s, int i, int sentAfter) {
        if (sentAfter == 0) {
            x.period(c.b);
        }
        int last = x.flying() - 1;
        long announced = Check.packedNews(c.m, s, i);
        check.due("it is announced", x.news(last, 0) == announced || x.news(last, 1) == announced, true);
    }

    /** Nothing: if the answer takes the old news of b along, that was sent once more. */
    private static void nothing(String title, Case c, Had before, int sentAfter) {
        arrived(title, c, before, new Had(before.status, before.incarnation, before.timer, sentAfter));
    }

    private static void clearsItself(String title, Case c, Had before, int sentAfter) {
        RumourCircle x = arrived(title, c, before, new Had(ALIVE, c.i + 1, 0, sentAfter));
        dueAnnounced(c, x, ALIVE, c.i + 1, sentAfter);
    }

    private static void ofItself() {
        nothing("of itself ALIVE with a lower incarnation",
                new Case(2, "p0 p0 d1 d1 p0 p0 d2", 1, 0, 1, 1, ALIVE, 1), new Had(ALIVE, 2, 0, 1), 2);
        nothing("of itself ALIVE with its incarnation",
                new Case(2, "p1 p1 d1 d1 p1", 1, 0, 0, 0, ALIVE, 1), new Had(ALIVE, 1, 0, 1), 2);
        nothing("of itself SUSPECT with a lower incarnation",
                new Case(2, "p1 p1 d1 p1", 2, 0, 0, 0, SUSPECT, 0), new Had(ALIVE, 1, 0, 1), 2);
        clearsItself("of itself SUSPECT with its incarnation",
                new Case(2, "p1 p1", 1, 0, 0, 0, SUSPECT, 0), new Had(ALIVE, 0, 0, NONE), 1);
        clearsItself("of itself SUSPECT with its incarnation, for the second time",
                new Case(2, "p0 p0 d1 d1 p0 p0", 2, 0, 1, 1, SUSPECT, 1), new Had(ALIVE, 1, 0, 1), 1);
        nothing("of itself FAULTY with a lower incarnation",
                new Case(2, "p0 p1 p1 p1 p1 p1 d2 d0", 4, 0, 0, 0, FAULTY, 0), new Had(ALIVE, 1, 0, 1), 1);
        clearsItself("of itself FAULTY with its incarnation",
                new Case(2, "p0 p0 p0 p0 p1 p0 d4", 4, 0, 1, 1, FAULTY, 0), new Had(ALIVE, 0, 0, NONE), 0);
    }

    private static void aliveToAlive() {
        nothing("ALIVE to ALIVE, lower",
                new Case(2, "p1 p1 d1 d0 d1 p1 d1 d1 p1", 0, 0, 1, 0, ALIVE, 1), new Had(ALIVE, 2, 0, 1), 1);
        nothing("ALIVE to ALIVE, the same",
                new Case(2, "p1 p1 d1 p0 d2", 1, 0, 1, 0, ALIVE, 1), new Had(ALIVE, 1, 0, 1), 1);
        newer("ALIVE to ALIVE, greater",
                new Case(4, "p3 p3 h3 d3", 3, 0, 1, 0, ALIVE, 1), new Had(ALIVE, 0, 0, NONE), 1);
    }

    private static void aliveToSuspect() {
        nothing("ALIVE to SUSPECT, lower",
                new Case(2, "p1 p1 d1 p0 d2 p1 d3 d3 p1 p1 p1", 1, 0, 1, 0, ALIVE, 1),
                new Had(SUSPECT, 2, 1, 2), 2);
        nothing("ALIVE to SUSPECT, the same",
                new Case(2, "p1 p1 d1 d0 d1 p1 p1", 0, 0, 1, 0, ALIVE, 1), new Had(SUSPECT, 1, 1, 2), 2);
        newer("ALIVE to SUSPECT, greater",
                new Case(3, "p1 p1 p1 d2", 2, 1, 1, 2, ALIVE, 1), new Had(SUSPECT, 0, 1, 2), 0);
    }

    private static void aliveToFaulty() {
        nothing("ALIVE to FAULTY, lower",
                new Case(2, "p1 p1 d1 p0 d2 p1 d3 d3 p1 p1 p1 p1 p1 p0 d7", 1, 0, 1, 0, ALIVE, 1),
                new Had(FAULTY, 2, 0, 1), 1);
        nothing("ALIVE to FAULTY, the same",
                new Case(2, "p0 p0 d1 p1 d2 p0 p0 p0 p0 p1 d6", 1, 0, 0, 1, ALIVE, 1),
                new Had(FAULTY, 1, 0, 1), 1);
        nothing("ALIVE to FAULTY, greater",
                new Case(3, "p0 p0 p0 d2 p0 p0", 2, 0, 0, 1, ALIVE, 1), new Had(FAULTY, 0, 0, 1), 1);
    }

    private static void suspectToAlive() {
        nothing("SUSPECT to ALIVE, lower",
                new Case(4, "p2 p2 h2 d3 d3", 1, 0, 0, 3, SUSPECT, 0), new Had(ALIVE, 1, 0, 1), 2);
        newer("SUSPECT to ALIVE, the same",
                new Case(4, "p2 p2", 1, 0, 0, 3, SUSPECT, 0), new Had(ALIVE, 0, 0, NONE), 1);
        newer("SUSPECT to ALIVE, greater",
                new Case(3, "p0 p0 p0 d2 d0 d2 p0", 2, 0, 2, 1, SUSPECT, 1), new Had(ALIVE, 0, 0, NONE), 1);
    }

    private static void suspectToSuspect() {
        nothing("SUSPECT to SUSPECT, lower",
                new Case(3, "p0 p2 p0 h0 p2 d3 d4 p2 p2", 2, 0, 2, 1, SUSPECT, 0),
                new Had(SUSPECT, 1, 1, 2), 3);
        nothing("SUSPECT to SUSPECT, the same",
                new Case(3, "p1 p1 p1 d1", 2, 0, 1, 2, SUSPECT, 0), new Had(SUSPECT, 0, 1, 2), 2);
        newer("SUSPECT to SUSPECT, greater",
                new Case(3, "p1 p1 p1 h1 d3 d3 p1 p2 p2", 6, 0, 1, 0, SUSPECT, 1),
                new Had(SUSPECT, 0, 1, 3), 1);
    }

    private static void suspectToFaulty() {
        nothing("SUSPECT to FAULTY, lower",
                new Case(3, "p0 p2 p2 p2 h2 d4 d4 p0 p0 p0 p0", 3, 0, 0, 1, SUSPECT, 0),
                new Had(FAULTY, 1, 0, 1), 2);
        nothing("SUSPECT to FAULTY, the same",
                new Case(3, "p1 p1 p1 p1 p1 d1", 4, 0, 1, 2, SUSPECT, 0), new Had(FAULTY, 0, 0, 1), 1);
        nothing("SUSPECT to FAULTY, greater",
                new Case(3, "p2 p2 p1 p2 d3 p0 d4 p2 p1 p1 p2", 7, 0, 2, 0, SUSPECT, 1),
                new Had(FAULTY, 0, 0, 1), 2);
    }

    private static void faultyToAlive() {
        newer("FAULTY to ALIVE, lower",
                new Case(3, "p1 p1 p1 p1 h1 d4 d4 p1", 5, 0, 0, 2, FAULTY, 0), new Had(ALIVE, 1, 0, 1), 1);
        newer("FAULTY to ALIVE, the same",
                new Case(3, "p2 p2 p2 p2 p2", 4, 0, 1, 0, FAULTY, 0), new Had(ALIVE, 0, 0, NONE), 1);
        newer("FAULTY to ALIVE, greater",
                new Case(3, "p1 p0 p0 p2 p0 d4 p1 d5 l2 p0 p0 l1 p0 p0 d1", 6, 0, 2, 1, FAULTY, 1),
                new Had(ALIVE, 0, 0, NONE), 0);
    }

    private static void faultyToSuspect() {
        newer("FAULTY to SUSPECT, lower",
                new Case(3, "p1 p1 h1 d2 d2 p1 p0 p0 p1 p1 p0 p0", 7, 0, 0, 2, FAULTY, 0),
                new Had(SUSPECT, 1, 1, 2), 1);
        newer("FAULTY to SUSPECT, the same",
                new Case(3, "p2 p2 d1 p1 p1 p1 p2", 4, 0, 2, 0, FAULTY, 0), new Had(SUSPECT, 0, 1, 2), 1);
        newer("FAULTY to SUSPECT, greater",
                new Case(3, "p2 p2 p2 d1 d1 p2 d2 p2 p2 p2 p2 p1 p2 d7", 7, 0, 1, 0, FAULTY, 1),
                new Had(SUSPECT, 0, 1, 2), 0);
    }

    private static void faultyToFaulty() {
        nothing("FAULTY to FAULTY, lower",
                new Case(3, "p0 p0 d1 d1 p2 p2 d2 d0 d2 p0 p0 p0 p0 p2 p0", 6, 0, 0, 1, FAULTY, 0),
                new Had(FAULTY, 1, 0, 1), 2);
        nothing("FAULTY to FAULTY, the same",
                new Case(3, "p1 p1 p1 p1 p1 d4", 4, 1, 1, 2, FAULTY, 0), new Had(FAULTY, 0, 0, 1), 1);
        nothing("FAULTY to FAULTY, greater",
                new Case(3, "p0 p0 d1 p0 d2 p2 d0 d3 p2 p2 p0 p0 p0 p0 d4", 7, 1, 2, 1, FAULTY, 1),
                new Had(FAULTY, 0, 0, 1), 1);
    }
}
