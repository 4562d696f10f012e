/** The sentences under "Terms" about PERIOD and HELP that name a boundary case, each with a test of its own. */
public final class PeriodTest {
    private static final int NONE = RumourCircle.NONE;
    private static final int ALIVE = RumourCircle.ALIVE;
    private static final int SUSPECT = RumourCircle.SUSPECT;
    private static final int FAULTY = RumourCircle.FAULTY;
    private static final int PING = 1;
    private static final int ACK = 2;
    private static final int REQUEST = 3;

    private static final Check check = new Check();

    public static void main(String[] args) {
        periodAges();
        periodSuspects();
        periodChooses();
        helpers();
        check.end();
    }

    private static void periodAges() {
        timerBelowThree();
        timerThree();
        timerOfOthers();
        faultyWithTheSameIncarnation();
        faultyIsAnnounced();
        twoFaultyAtOnce();
    }

    private static void timerBelowThree() {
        check.part("\"its timer grows by 1\"");
        RumourCircle x = Run.of(2, "p0 p0");
        check.dueView(x, 0, 1, SUSPECT, 0, 0);
        x.period(0);
        check.dueView(x, 0, 1, SUSPECT, 0, 1);
        x.period(0);
        check.dueView(x, 0, 1, SUSPECT, 0, 2);
        // Only in periods of the node that suspects.
        x.period(1);
        check.dueView(x, 0, 1, SUSPECT, 0, 2);
    }

    private static void timerThree() {
        check.part("\"when that makes it 3, the timer becomes 0, m becomes FAULTY in a's view\"");
        RumourCircle x = Run.of(3, "p0 p0 p0 p0");
        check.dueView(x, 0, 1, SUSPECT, 0, 2);
        x.period(0);
        check.dueView(x, 0, 1, FAULTY, 0, 0);
        check.dueView(x, 1, 1, ALIVE, 0, 0);
        check.dueView(x, 2, 1, ALIVE, 0, 0);
    }

    private static void timerOfOthers() {
        check.part("\"For each node m that is SUSPECT in a's view\": not of those that are not");
        RumourCircle x = Run.of(3, "p0 p0 p0 p0 p0 p0 p0 p0 p0 p0");
        check.dueView(x, 0, 1, FAULTY, 0, 0);
        check.dueView(x, 0, 2, FAULTY, 0, 0);
        check.dueView(x, 0, 0, ALIVE, 0, 0);
        x = new RumourCircle(3);
        for (int i = 0; i < 8; i++) {
            Run.on(x, "p0 d0 d0");
            check.dueView(x, 0, 1, ALIVE, 0, 0);
            check.dueView(x, 0, 2, ALIVE, 0, 0);
        }
    }

    private static void faultyWithTheSameIncarnation() {
        check.part("\"FAULTY in a's view, with the same incarnation\"");
        RumourCircle x = Run.of(2, "p0 p0 d1 d1 p0 p0 p0 p0");
        check.dueView(x, 0, 1, SUSPECT, 1, 2);
        x.period(0);
        check.dueView(x, 0, 1, FAULTY, 1, 0);
    }

    private static void faultyIsAnnounced() {
        check.part("\"and a announces that\", FAULTY");
        RumourCircle x = Run.of(3, "p0 p0 p0 p0 p0");
        check.dueMessage(x, 4, Check.packed(PING, 0, 2, 2, 2));
        check.dueNews(x, 4, 0, Check.packedNews(1, FAULTY, 0));
        check.dueSent(x, 0, 1, 1);
    }

    private static void twoFaultyAtOnce() {
        check.part("\"For each node m that is SUSPECT in a's view, in the order of their numbers\"");
        RumourCircle x = Run.of(6, "p0 p0 p0 d2 l0 l0 l0 p3");
        check.dueView(x, 3, 1, SUSPECT, 0, 1);
        check.dueView(x, 3, 2, SUSPECT, 0, 1);
        x.period(3);
        check.dueView(x, 3, 1, SUSPECT, 0, 2);
        check.dueView(x, 3, 2, SUSPECT, 0, 2);
        check.due("period(3)", x.period(3), 0);
        check.dueView(x, 3, 1, FAULTY, 0, 0);
        check.dueView(x, 3, 2, FAULTY, 0, 0);
        check.dueNews(x, 2, 0, Check.packedNews(1, FAULTY, 0));
        check.dueNews(x, 2, 1, Check.packedNews(2, FAULTY, 0));
        // 4 and 5 gave no answer; only 4 has grown older since.
        check.dueView(x, 3, 4, SUSPECT, 0, 1);
        check.dueView(x, 3, 5, SUSPECT, 0, 0);
        check.dueSent(x, 3, 5, 0);
    }

    private static void periodSuspects() {
        silentTargetIsSuspected();
        answeredTargetIsNot();
        suspectTargetKeepsItsTimer();
        faultyTargetStaysFaulty();
        faultyInTheSamePeriod();
        suspectWithTheSameIncarnation();
        suspectIsNotAgedAtOnce();
    }

    private static void silentTargetIsSuspected() {
        check.part("\"the target becomes SUSPECT\"");
        RumourCircle x = Run.of(4, "p1 p1");
        check.dueView(x, 1, 2, SUSPECT, 0, 0);
        check.dueView(x, 1, 3, ALIVE, 0, 0);
        check.dueView(x, 1, 0, ALIVE, 0, 0);
        check.dueSent(x, 1, 2, 1);
        check.dueNews(x, 1, 0, Check.packedNews(2, SUSPECT, 0));
    }

    private static void answeredTargetIsNot() {
        check.part("\"If a has a probe that is not answered\": not if it is");
        RumourCircle x = Run.of(2, "p0 d0 d0 p0");
        check.dueView(x, 0, 1, ALIVE, 0, 0);
        check.dueSent(x, 0, 1, NONE);
        // By a helper.
        x = Run.of(3, "p0 l0 h0 d0 d0 d0 d0 p0");
        check.dueView(x, 0, 1, ALIVE, 0, 0);
    }

    private static void suspectTargetKeepsItsTimer() {
        check.part("\"and its target is ALIVE in a's view\": not one that is SUSPECT");
        // The third and the fourth period find the target SUSPECT, and no answer.
        RumourCircle x = Run.of(2, "p0 p0 p0 p0");
        check.dueView(x, 0, 1, SUSPECT, 0, 2);
        check.dueSent(x, 0, 1, 3);
    }

    private static void faultyTargetStaysFaulty() {
        check.part("\"and its target is ALIVE in a's view\": not one that is FAULTY");
        RumourCircle x = Run.of(3, "p2 d0 d0 p2 p2 p2 p2 p2 p0");
        check.dueMessage(x, 4, Check.packed(PING, 2, 0, 0, 2));
        check.dueNews(x, 4, 0, Check.packedNews(1, FAULTY, 0));
        x.deliver(4);
        check.dueProbe(x, 0, 1);
        check.dueView(x, 0, 1, FAULTY, 0, 0);
        check.dueSent(x, 0, 1, 1);
        check.due("period(0)", x.period(0), 2);
        check.dueView(x, 0, 1, FAULTY, 0, 0);
        check.dueSent(x, 0, 1, 2);
    }

    private static void faultyInTheSamePeriod() {
        check.part("(1) comes before (2): a target that has become FAULTY stays so");
        RumourCircle x = Run.of(2, "p0 p0 p0 p0");
        check.dueProbe(x, 0, 1);
        x.period(0);
        check.dueView(x, 0, 1, FAULTY, 0, 0);
        x.period(0);
        check.dueView(x, 0, 1, FAULTY, 0, 0);
        check.dueSent(x, 0, 1, 0);
    }

    private static void suspectWithTheSameIncarnation() {
        check.part("\"SUSPECT, with the same incarnation\"");
        RumourCircle x = Run.of(2, "p0 p0 d1 d1");
        check.dueView(x, 0, 1, ALIVE, 1, 0);
        Run.on(x, "p0 p0");
        check.dueView(x, 0, 1, SUSPECT, 1, 0);
        check.dueNews(x, 2, 0, Check.packedNews(1, SUSPECT, 1));
    }

    private static void suspectIsNotAgedAtOnce() {
        check.part("\"its timer 0\"");
        RumourCircle x = Run.of(3, "p0 p0");
        check.dueView(x, 0, 1, SUSPECT, 0, 0);
        // A second suspicion, after the first was cleared at timer 1, begins at 0 again.
        x = Run.of(3, "p1 p1 p1");
        check.dueView(x, 1, 2, SUSPECT, 0, 1);
        Run.on(x, "d2 d2");
        check.dueView(x, 1, 2, ALIVE, 1, 0);
        Run.on(x, "p1 p1 p1");
        check.dueView(x, 1, 2, SUSPECT, 1, 0);
    }

    private static void periodChooses() {
        passesOverItself();
        passesOverFaulty();
        suspectsAreProbed();
        lastTargetComesLast();
        noTarget();
        newProbeIsNotAnswered();
        numberGrows();
        pingOfTheProbe();
    }

    private static void passesOverItself() {
        check.part("\"that is neither a\"");
        RumourCircle x = new RumourCircle(3);
        int[] targets = {2, 0, 2, 0, 2, 0};
        for (int target : targets) {
            check.due("period(1)", x.period(1), target);
            Run.on(x, "d0 d0");
        }
    }

    private static void passesOverFaulty() {
        check.part("\"nor FAULTY in a's view\", the target");
        RumourCircle x = Run.of(4, "s1 p0 d0 p0 d0 d0 p0 d0 d0 p0 d0");
        check.dueView(x, 0, 1, SUSPECT, 0, 2);
        int[] targets = {2, 3, 2, 3};
        for (int target : targets) {
            check.due("period(0)", x.period(0), target);
            check.due("status(0, 1)", x.status(0, 1), FAULTY);
            Run.on(x, "d0 d0");
        }
        // One that becomes FAULTY in this very period is passed over: without that, it were 1.
        x = Run.of(3, "p0 p0 p0 p0");
        check.due("period(0)", x.period(0), 2);
    }

    private static void suspectsAreProbed() {
        check.part("\"nor FAULTY in a's view\": those that are SUSPECT are probed");
        RumourCircle x = Run.of(3, "p0 p0 p0");
        check.due("status(0, 1)", x.status(0, 1), SUSPECT);
        check.dueProbe(x, 0, 1);
    }

    private static void lastTargetComesLast() {
        check.part("\"(the last target itself comes last)\"");
        RumourCircle x = new RumourCircle(2);
        for (int i = 0; i < 4; i++) {
            check.due("period(1)", x.period(1), 0);
        }
        // Of three, the one other is FAULTY.
        x = Run.of(3, "p0 p0 p0 p0 p0");
        check.due("status(0, 1)", x.status(0, 1), FAULTY);
        check.dueProbe(x, 0, 2);
        check.dueMessage(x, 3, Check.packed(PING, 0, 2, 2, 2));
        check.dueMessage(x, 4, Check.packed(PING, 0, 2, 2, 2));
    }

    private static void noTarget() {
        check.part("\"If there is none, a has no probe any more\"");
        RumourCircle x = Run.of(2, "p0 p0 p0 p0");
        check.dueProbe(x, 0, 1);
        check.due("period(0)", x.period(0), NONE);
        check.dueProbe(x, 0, NONE);
        check.dueFlying(x, 4);
        check.due("help(0)", x.help(0), NONE);
        check.due("period(0)", x.period(0), NONE);
        check.dueFlying(x, 4);
        // A probe that was answered is gone too; here, by a node that has told six times that it is
        // ALIVE, each time in vain.
        x = Run.of(2, "p0 p0 d1 l1 p1 p1 p1 p1 l1 l1 l1 l1 d0 l0 p0 l0 p0 d0 d0");
        check.dueView(x, 0, 1, SUSPECT, 0, 2);
        check.dueProbe(x, 0, 9);
        check.due("period(0)", x.period(0), NONE);
        check.dueProbe(x, 0, NONE);
    }

    private static void newProbeIsNotAnswered() {
        check.part("\"the target of a's probe, which is not answered\"");
        RumourCircle x = Run.of(2, "p0 d0 d0");
        check.dueProbe(x, 0, 9);
        x.period(0);
        check.dueProbe(x, 0, 1);
    }

    private static void numberGrows() {
        check.part("\"the number of a's latest probe grows by 1\"");
        // Each of the answers to the first four does not do for the fifth.
        RumourCircle x = Run.of(3, "p0 p0 p0 p0 p0");
        for (int i = 0; i < 4; i++) {
            x.deliver(0);
            x.deliver(x.flying() - 1);
            check.dueProbe(x, 0, 2);
        }
        Run.on(x, "d0 d0");
        check.dueProbe(x, 0, 10);
    }

    private static void pingOfTheProbe() {
        check.part("\"a sends it a PING with a as the origin and that number\"");
        for (int n = 2; n <= 6; n++) {
            RumourCircle x = new RumourCircle(n);
            int target = x.period(n - 1);
            check.dueFlying(x, 1);
            check.dueMessage(x, 0, Check.packed(PING, n - 1, target, target, 0));
            // An ACK that comes to another than the origin would be passed on.
            Run.on(x, "d0 d0");
            check.dueFlying(x, 0);
            check.dueProbe(x, n - 1, target + 8);
        }
    }

    private static void helpers() {
        helpersRoundTheCircle();
        helperIsNotTheAsker();
        helperIsNotTheTarget();
        helperIsNotFaulty();
        helperMayBeSuspectOrDown();
        fewerHelpers();
        helpAboutAFaultyTarget();
        helpWithTheNumber();
    }

    private static void helpersRoundTheCircle() {
        check.part("\"each of the first two nodes met going round the circle from the one next after the target\"");
        for (int a = 0; a < 6; a++) {
            RumourCircle x = new RumourCircle(6);
            // All five targets, one after the other.
            for (int away = 1; away <= 5; away++) {
                int target = x.period(a);
                check.due("the target", target, (a + away) % 6);
                // How far from a: after the fifth comes a itself, which is passed over.
                int first = away == 5 ? 1 : away + 1;
                int second = first == 5 ? 1 : first + 1;
                check.due("help(" + a + ")", x.help(a), 2);
                check.dueMessage(x, 1, Check.packed(REQUEST, a, (a + first) % 6, target, 0));
                check.dueMessage(x, 2, Check.packed(REQUEST, a, (a + second) % 6, target, 0));
                check.dueFlying(x, 3);
                Run.on(x, "l1 l1 d0 d0");
            }
        }
    }

    private static void helperIsNotTheAsker() {
        check.part("\"that are neither a\", the helpers");
        RumourCircle x = Run.of(4, "p0 d0 d0 p0 d0 d0 p0");
        check.dueProbe(x, 0, 3);
        check.due("help(0)", x.help(0), 2);
        check.dueMessage(x, 1, Check.packed(REQUEST, 0, 1, 3, 0));
        check.dueMessage(x, 2, Check.packed(REQUEST, 0, 2, 3, 0));
        // Between the two.
        x = Run.of(4, "p0 d0 d0 p0 h0");
        check.dueMessage(x, 1, Check.packed(REQUEST, 0, 3, 2, 0));
        check.dueMessage(x, 2, Check.packed(REQUEST, 0, 1, 2, 0));
    }

    private static void helperIsNotTheTarget() {
        check.part("\"nor the target\"");
        RumourCircle x = Run.of(3, "p0");
        check.due("help(0)", x.help(0), 1);
        check.dueMessage(x, 1, Check.packed(REQUEST, 0, 2, 1, 0));
        check.dueFlying(x, 2);
        x = Run.of(2, "p0");
        check.due("help(0)", x.help(0), 0);
        check.dueFlying(x, 1);
    }

    private static void helperIsNotFaulty() {
        check.part("\"nor FAULTY in a's view\", the helpers");
        // 1 is FAULTY in the view of 0, which probes 5: 2 and 3 are asked.
        RumourCircle x = Run.of(6, "s1 p0 d0 p0 d0 d0 p0 d0 d0 p0 l0 p0 l0");
        check.due("status(0, 1)", x.status(0, 1), FAULTY);
        check.dueProbe(x, 0, 5);
        check.due("help(0)", x.help(0), 2);
        check.due("the first", x.message(0) / 64, (REQUEST * 4096 + 2 * 64) / 64);
        check.due("the second", x.message(1) / 64, (REQUEST * 4096 + 3 * 64) / 64);
    }

    private static void helperMayBeSuspectOrDown() {
        check.part("\"nor FAULTY in a's view\": helpers that are SUSPECT, or down without its being known");
        RumourCircle x = Run.of(3, "p0 p0");
        check.due("status(0, 1)", x.status(0, 1), SUSPECT);
        check.due("help(0)", x.help(0), 1);
        check.dueMessage(x, 2, Check.packed(REQUEST, 0, 1, 2, 1));
        x = Run.of(3, "s2 p0");
        check.due("help(0)", x.help(0), 1);
        check.dueMessage(x, 1, Check.packed(REQUEST, 0, 2, 1, 0));
    }

    private static void fewerHelpers() {
        check.part("\"(or fewer, if there are not so many)\"");
        RumourCircle x = Run.of(4, "p0 p0 p0 p0 p0");
        check.due("status(0, 1)", x.status(0, 1), FAULTY);
        check.dueProbe(x, 0, 2);
        check.due("help(0) with one", x.help(0), 1);
        check.dueMessage(x, 5, Check.packed(REQUEST, 0, 3, 2, 2));
        x.period(0);
        check.due("status(0, 2)", x.status(0, 2), FAULTY);
        check.dueProbe(x, 0, 3);
        int flying = x.flying();
        check.due("help(0) with none", x.help(0), 0);
        check.dueFlying(x, flying);
    }

    private static void helpAboutAFaultyTarget() {
        check.part("\"a probe that is not answered\": help about a target that has become FAULTY");
        RumourCircle x = Run.of(3, "p2 d0 d0 p2 p2 p2 p2 p2 p0 d4");
        check.due("status(0, 1)", x.status(0, 1), FAULTY);
        check.dueProbe(x, 0, 1);
        check.due("help(0)", x.help(0), 1);
        check.due("the request", x.message(6) / 8, Check.packed(REQUEST, 0, 2, 1, 0) / 8);
    }

    private static void helpWithTheNumber() {
        check.part("\"with a as the origin, the target and the number of the probe\"");
        RumourCircle x = Run.of(4, "p1 d0 d0 p1 l0 h1");
        check.dueMessage(x, 0, Check.packed(REQUEST, 1, 0, 3, 0));
        check.dueMessage(x, 1, Check.packed(REQUEST, 1, 2, 3, 0));
        Run.on(x, "d0 d1 d1");
        check.dueMessage(x, 1, Check.packed(ACK, 0, 1, 3, 0));
        x.deliver(1);
        check.dueProbe(x, 1, 11);
        // The other helper's answer comes when the next probe is out.
        Run.on(x, "d0 d0 p1 d0");
        check.dueMessage(x, 1, Check.packed(ACK, 2, 1, 3, 0));
        x.deliver(1);
        check.dueProbe(x, 1, 0);
    }
}
