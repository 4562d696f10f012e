import java.util.function.ToIntFunction;

/**
 * "A call that is refused changes nothing": for every call that may be refused and every reason, two
 * objects go through the same run, one of them with refused calls between the steps. All answers are the
 * same, and so is what is left: also what shows in later answers alone, such as the number of a probe.
 */
public final class RefusedTest {
    private static final int NONE = RumourCircle.NONE;
    private static final int FALSE = 0;

    // Four nodes and an empty row at first: probes with an answer, one by a helper, and rounds.
    private static final String[] STEPS =
            "p0 d0 d0 p0 d0 d0 p0 l0 h0 d0 d1 d1 d1 l0 p0 p1 h1 r p3 d0 d0 r p1 d0 d0 r".split(" ");
    private static final int[] FAR = {Integer.MIN_VALUE, -1, 24, 64, Integer.MAX_VALUE};

    private static final Check check = new Check();

    public static void main(String[] args) {
        periodOfNoNode();
        periodOfOneThatIsDown();
        helpOfNoNode();
        helpOfOneThatIsDown();
        helpWithoutAProbe();
        helpWithAnAnswer();
        deliverNoMessage();
        loseNoMessage();
        stopNoNode();
        stopOneThatIsDown();
        refusedWithAFullRow();
        check.end();
    }

    /** The refused call comes before each step, on an object that has begun so. */
    private static void beforeEachStep(String begin, int answer, ToIntFunction<RumourCircle> refused) {
        RumourCircle x = Run.of(4, begin);
        RumourCircle y = Run.of(4, begin);
        check.dueFlying(x, 0);
        for (int i = 0; i < STEPS.length; i++) {
            check.due("the refused call before step " + i, refused.applyAsInt(x), answer);
            check.due("step " + i + ", " + STEPS[i], Run.one(x, STEPS[i]), Run.one(y, STEPS[i]));
        }
        check.due("what is left", Snapshot.of(x), Snapshot.of(y));
    }

    /** Of the calls, those with a '!' are for x alone and are refused. */
    private static void twins(RumourCircle x, RumourCircle y, String calls) {
        for (String call : calls.split(" ")) {
            if (call.startsWith("!")) {
                boolean isTrueOrFalse = "ls".indexOf(call.charAt(1)) >= 0;
                check.due(call, Run.one(x, call.substring(1)), isTrueOrFalse ? FALSE : NONE);
            } else {
                check.due(call, Run.one(x, call), Run.one(y, call));
            }
        }
        check.due("what is left", Snapshot.of(x), Snapshot.of(y));
    }

    private static void twins(int n, String calls) {
        twins(new RumourCircle(n), new RumourCircle(n), calls);
    }

    private static void periodOfNoNode() {
        check.part("refused: period, no node");
        beforeEachStep("p3 l0", NONE, x -> x.period(4));
        for (int a : FAR) {
            beforeEachStep("p3 l0", NONE, x -> x.period(a));
        }
    }

    private static void periodOfOneThatIsDown() {
        check.part("refused: period, a node that is down");
        beforeEachStep("s2", NONE, x -> x.period(2));
        // It had a probe without an answer, and a suspicion; or a probe with an answer.
        beforeEachStep("p2 l0 p2 l0 s2", NONE, x -> x.period(2));
        beforeEachStep("p2 d0 d0 s2", NONE, x -> x.period(2));
    }

    private static void helpOfNoNode() {
        check.part("refused: help, no node");
        beforeEachStep("p3 l0", NONE, x -> x.help(4));
        for (int a : FAR) {
            beforeEachStep("p3 l0", NONE, x -> x.help(a));
        }
    }

    private static void helpOfOneThatIsDown() {
        check.part("refused: help, a node that is down");
        beforeEachStep("p2 l0 p2 l0 s2", NONE, x -> x.help(2));
    }

    private static void helpWithoutAProbe() {
        check.part("refused: help, no probe");
        twins(4, "!h0 !h1 !h2 !h3");
        twins(4, "!h0 p0 !h1 d0 d0 !h2 p2 p1 d0 !h3 d0 d0 d0 p3 r");
        // No probe any more.
        twins(2, "p0 p0 p0 p0 p0 !h0");
        twins(2, "p0 p0 p0 p0 p0 !h0 p1 d4 !h0 d4 p1 !h0 r p0");
    }

    private static void helpWithAnAnswer() {
        check.part("refused: help, an answer is there");
        twins(4, "p0 d0 d0 !h0");
        twins(4, "p0 d0 d0 !h0 p0 d0 d0 !h0 p0 l0 h0 d0 d1 d1 d1 !h0 l0 p0 p0 r !h0 r !h1 r !h2 p0 p1 p2 r");
    }

    private static void deliverNoMessage() {
        check.part("refused: deliver, no message");
        beforeEachStep("p3 l0", NONE, x -> x.deliver(x.flying()));
        for (int k : FAR) {
            beforeEachStep("p3 l0", NONE, x -> x.deliver(k));
        }
    }

    private static void loseNoMessage() {
        check.part("refused: lose, no message");
        beforeEachStep("p3 l0", FALSE, x -> x.lose(x.flying()) ? 1 : 0);
        for (int k : FAR) {
            beforeEachStep("p3 l0", FALSE, x -> x.lose(k) ? 1 : 0);
        }
    }

    private static void stopNoNode() {
        check.part("refused: stop, no node");
        beforeEachStep("p3 l0", FALSE, x -> x.stop(4) ? 1 : 0);
        for (int a : FAR) {
            beforeEachStep("p3 l0", FALSE, x -> x.stop(a) ? 1 : 0);
        }
    }

    private static void stopOneThatIsDown() {
        check.part("refused: stop, a node that is down");
        beforeEachStep("s2", FALSE, x -> x.stop(2) ? 1 : 0);
        beforeEachStep("p2 l0 p2 l0 s2", FALSE, x -> x.stop(2) ? 1 : 0);
    }

    private static void refusedWithAFullRow() {
        check.part("refused with 24 in flight");
        twins(Run.crowded(24), Run.crowded(24),
                "s5 !p5 !p6 !p-1 !h4 !h5 !h6 !d24 !d-1 !l24 !l-1 !s5 !s6 p0 !d24 h0 !l24 d23 d0 l3 r");
    }
}
