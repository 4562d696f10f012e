/**
 * The sentences under "Terms" that name a boundary case, each with a test of its own: nodes, news and
 * messages. Those about HEAR stand in HearTest, those about PERIOD and HELP in PeriodTest, and the last
 * one, about refused calls, in RefusedTest.
 */
public final class TermsTest {
    private static final int NONE = RumourCircle.NONE;
    private static final int ALIVE = RumourCircle.ALIVE;
    private static final int SUSPECT = RumourCircle.SUSPECT;
    private static final int FAULTY = RumourCircle.FAULTY;
    private static final int PING = 1;
    private static final int ACK = 2;
    private static final int REQUEST = 3;

    private static final Check check = new Check();

    public static void main(String[] args) {
        nodes();
        rowOfMessages();
        sending();
        arriving();
        answers();
        check.end();
    }

    private static void nodes() {
        nodesFromZeroToNMinusOne();
        downForGood();
        zeroAfterTheLast();
        viewAtFirst();
        incarnationAtFirst();
        lastTargetAtFirst();
        probeAtFirst();
        atMostOneNewsAboutEachNode();
        announcedForTheFirstTime();
        announcedInPlace();
    }

    private static void nodesFromZeroToNMinusOne() {
        check.part("\"NODES are 0 .. n - 1, each UP at first\"");
        for (int n = 2; n <= 6; n++) {
            RumourCircle x = new RumourCircle(n);
            check.due("isUp(-1) of " + n, x.isUp(-1), false);
            for (int a = 0; a < n; a++) {
                check.due("isUp(" + a + ") of " + n, x.isUp(a), true);
            }
            check.due("isUp(" + n + ") of " + n, x.isUp(n), false);
        }
    }

    private static void downForGood() {
        check.part("\"one that has stopped is DOWN for good\"");
        // The third PING of 0 tells 1 that it is suspected; it can't clear itself any more.
        RumourCircle x = Run.of(3, "s1 p0 p0 p0 d2 r r r");
        check.due("isUp(1)", x.isUp(1), false);
        check.due("stop(1)", x.stop(1), false);
        check.due("period(1)", x.period(1), NONE);
        check.due("incarnation(1, 1)", x.incarnation(1, 1), 0);
        check.due("isUp(0)", x.isUp(0), true);
        check.due("isUp(2)", x.isUp(2), true);
    }

    private static void zeroAfterTheLast() {
        check.part("\"the node with the next number, 0 after n - 1\"");
        for (int n = 2; n <= 6; n++) {
            RumourCircle x = new RumourCircle(n);
            check.due("period(" + (n - 1) + ") of " + n, x.period(n - 1), 0);
            x.lose(0);
            for (int i = 0; i < 2 * (n - 1); i++) {
                check.due("period(0) of " + n, x.period(0), 1 + i % (n - 1));
                Run.on(x, "d0 d0");
            }
        }
        RumourCircle x = Run.of(4, "p2 h2");
        check.dueMessage(x, 0, Check.packed(PING, 2, 3, 3, 0));
        check.dueMessage(x, 1, Check.packed(REQUEST, 2, 0, 3, 0));
        check.dueMessage(x, 2, Check.packed(REQUEST, 2, 1, 3, 0));
    }

    private static void viewAtFirst() {
        check.part("\"at first ALIVE and 0; and a TIMER for it, 0 at first\"");
        for (int n = 2; n <= 6; n++) {
            RumourCircle x = new RumourCircle(n);
            for (int a = 0; a < n; a++) {
                for (int m = 0; m < n; m++) {
                    check.dueView(x, a, m, ALIVE, 0, 0);
                }
            }
        }
    }

    private static void incarnationAtFirst() {
        check.part("\"an incarnation of its own, at first 0\"");
        RumourCircle x = new RumourCircle(6);
        for (int a = 0; a < 6; a++) {
            check.due("incarnation(" + a + ", " + a + ")", x.incarnation(a, a), 0);
        }
        // The first time that a node clears itself makes it 1.
        x = Run.of(2, "p0 p0 d1");
        check.due("incarnation(1, 1)", x.incarnation(1, 1), 1);
    }

    private static void lastTargetAtFirst() {
        check.part("\"a LAST TARGET, at first a itself\"");
        for (int n = 2; n <= 6; n++) {
            for (int a = 0; a < n; a++) {
                RumourCircle x = new RumourCircle(n);
                check.due("period(" + a + ") of " + n, x.period(a), a + 1 < n ? a + 1 : 0);
            }
        }
    }

    private static void probeAtFirst() {
        check.part("\"a PROBE, at first none\"");
        RumourCircle x = new RumourCircle(3);
        for (int a = 0; a < 3; a++) {
            check.dueProbe(x, a, NONE);
            check.due("help(" + a + ")", x.help(a), NONE);
        }
        // There was no probe without an answer before the first period: nobody is suspected.
        x.period(0);
        check.dueView(x, 0, 1, ALIVE, 0, 0);
        check.dueView(x, 0, 2, ALIVE, 0, 0);
        check.due("doubted()", x.doubted(), 0);
    }

    private static void atMostOneNewsAboutEachNode() {
        check.part("\"The BUFFER of a node has at most one news about each node\"");
        // The fifth period announces FAULTY in place of SUSPECT; from then on 1 is told of six times.
        RumourCircle x = Run.of(4, "p0 p0 p0 p0 p0");
        for (int i = 0; i < 9; i++) {
            check.due("help(0)", x.help(0), 1);
        }
        int told = 0;
        for (int k = 4; k < x.flying(); k++) {
            for (int j = 0; j < 2; j++) {
                long news = x.news(k, j);
                boolean about = news >= 4 && news < 8;
                told += about ? 1 : 0;
                check.due("old news of 1 in message " + k, about && news != Check.packedNews(1, FAULTY, 0), false);
            }
            check.due("the same news twice in message " + k,
                    x.news(k, 0) != NONE && x.news(k, 0) == x.news(k, 1), false);
        }
        check.due("times told", told, 6);
        check.dueSent(x, 0, 1, NONE);
    }

    private static void announcedForTheFirstTime() {
        check.part("\"it comes into the buffer, sent 0 times\"");
        RumourCircle x = Run.of(3, "p2 d0 d0 p0 p0 p0 d2 p2 d3");
        check.dueMessage(x, 3, Check.packed(ACK, 1, 2, 1, 2));
        check.dueNews(x, 3, 0, Check.packedNews(1, ALIVE, 1));
        check.dueNews(x, 3, 1, Check.packedNews(2, SUSPECT, 0));
        check.dueSent(x, 2, 1, NONE);
        check.dueSent(x, 2, 2, NONE);
        x.deliver(3);
        check.dueSent(x, 2, 0, NONE);
        check.dueSent(x, 2, 1, 0);
        check.dueSent(x, 2, 2, 0);
    }

    private static void announcedInPlace() {
        check.part("\"in place of one about the same node, if there is one\"");
        RumourCircle x = Run.of(2, "p0 p0 p0 p0");
        check.dueSent(x, 0, 1, 3);
        x.period(0);
        check.dueSent(x, 0, 1, 0);
        // The new news goes with the next message.
        Run.on(x, "p1 d4");
        check.dueNews(x, 4, 0, Check.packedNews(1, FAULTY, 0));
        check.dueNews(x, 4, 1, NONE);
        check.dueSent(x, 0, 1, 1);
    }

    private static void rowOfMessages() {
        check.part("\"in the order in which they were sent; number 0 is the oldest\"");
        RumourCircle x = Run.of(6, "p4 p0 p2 h0");
        check.dueMessage(x, 0, Check.packed(PING, 4, 5, 5, 0));
        check.dueMessage(x, 1, Check.packed(PING, 0, 1, 1, 0));
        check.dueMessage(x, 2, Check.packed(PING, 2, 3, 3, 0));
        check.dueMessage(x, 3, Check.packed(REQUEST, 0, 2, 1, 0));
        check.dueMessage(x, 4, Check.packed(REQUEST, 0, 3, 1, 0));
        x.deliver(1);
        check.dueMessage(x, 0, Check.packed(PING, 4, 5, 5, 0));
        check.dueMessage(x, 1, Check.packed(PING, 2, 3, 3, 0));
        check.dueMessage(x, 4, Check.packed(ACK, 1, 0, 1, 0));
    }

    private static void sending() {
        atMostTwo();
        sentLeastOften();
        inThisOrder();
        leastNumberFirst();
        onceMore();
        sixTimes();
        sixTimesBothAtOnce();
        sixTimesBeforeAnother();
        endOfTheRow();
        lostWhenFull();
        lostNewsCounts();
    }

    private static void atMostTwo() {
        check.part("\"those of the news in its buffer, at most two\"");
        // Before the PINGs there are none, one, two and three news in the buffer.
        RumourCircle x = Run.of(5, "p0 p0 p0 p0");
        check.dueMessage(x, 0, Check.packed(PING, 0, 1, 1, 0));
        check.dueMessage(x, 1, Check.packed(PING, 0, 2, 2, 1));
        check.dueMessage(x, 2, Check.packed(PING, 0, 3, 3, 2));
        check.dueMessage(x, 3, Check.packed(PING, 0, 4, 4, 2));
        for (int k = 0; k < 4; k++) {
            check.due("news(" + k + ", 0) is there", x.news(k, 0) != NONE, k > 0);
            check.due("news(" + k + ", 1) is there", x.news(k, 1) != NONE, k > 1);
            check.dueNews(x, k, 2, NONE);
        }
    }

    private static void sentLeastOften() {
        check.part("\"that were sent least often\"");
        // Sent before the fourth PING: 1 twice, 2 once, 3 not yet.
        RumourCircle x = Run.of(5, "p0 p0 p0");
        check.dueSent(x, 0, 1, 2);
        check.dueSent(x, 0, 2, 1);
        x.period(0);
        check.dueSent(x, 0, 1, 2);
        check.dueSent(x, 0, 2, 2);
        check.dueSent(x, 0, 3, 1);
    }

    private static void inThisOrder() {
        check.part("\"in this order they go with the message\"");
        RumourCircle x = Run.of(5, "p0 p0 p0 p0");
        check.dueNews(x, 2, 0, Check.packedNews(2, SUSPECT, 0));
        check.dueNews(x, 2, 1, Check.packedNews(1, SUSPECT, 0));
        check.dueNews(x, 3, 0, Check.packedNews(3, SUSPECT, 0));
        check.dueNews(x, 3, 1, Check.packedNews(2, SUSPECT, 0));
    }

    private static void leastNumberFirst() {
        check.part("\"of those sent equally often the one about the node with the least number first\"");
        // 3 hears of 2, then of 1; its ACK tells of 1, then of 2.
        RumourCircle x = Run.of(6, "p0 p0 p0");
        check.dueNews(x, 2, 0, Check.packedNews(2, SUSPECT, 0));
        check.dueNews(x, 2, 1, Check.packedNews(1, SUSPECT, 0));
        x.deliver(2);
        check.dueNews(x, 2, 0, Check.packedNews(1, SUSPECT, 0));
        check.dueNews(x, 2, 1, Check.packedNews(2, SUSPECT, 0));
        // Three sent three times each: the third one stays behind.
        x = Run.of(5, "p0 p0 p0 p0 h0");
        for (int m = 1; m <= 3; m++) {
            check.dueSent(x, 0, m, 3);
        }
        x.help(0);
        check.dueNews(x, 6, 0, Check.packedNews(1, SUSPECT, 0));
        check.dueNews(x, 6, 1, Check.packedNews(2, SUSPECT, 0));
        check.dueNews(x, 7, 0, Check.packedNews(3, SUSPECT, 0));
        check.dueNews(x, 7, 1, Check.packedNews(1, SUSPECT, 0));
    }

    private static void onceMore() {
        check.part("\"each of them was sent once more then\"");
        RumourCircle x = Run.of(6, "p0 p0 p0 d2");
        check.dueSent(x, 3, 1, 1);
        check.dueSent(x, 3, 2, 1);
        x.period(3);
        check.dueSent(x, 3, 1, 2);
        check.dueSent(x, 3, 2, 2);
        check.dueSent(x, 0, 1, 2);
        check.dueSent(x, 0, 2, 1);
    }

    private static void sixTimes() {
        check.part("\"one that was sent six times is taken out of the buffer\"");
        RumourCircle x = Run.of(6, "p0 p0 h0 h0");
        check.dueSent(x, 0, 1, 5);
        // The first REQUEST takes it along for the sixth time, the second goes without news.
        x.help(0);
        check.dueSent(x, 0, 1, NONE);
        check.dueMessage(x, 5, Check.packed(REQUEST, 0, 4, 2, 1));
        check.dueMessage(x, 6, Check.packed(REQUEST, 0, 3, 2, 1));
        check.dueNews(x, 6, 0, Check.packedNews(1, SUSPECT, 0));
        check.dueMessage(x, 7, Check.packed(REQUEST, 0, 4, 2, 0));
        // The view stays; the news does not come back by itself.
        check.due("status(0, 1)", x.status(0, 1), SUSPECT);
        x.help(0);
        check.dueMessage(x, 8, Check.packed(REQUEST, 0, 3, 2, 0));
    }

    private static void sixTimesBothAtOnce() {
        check.part("\"one that was sent six times is taken out of the buffer\", two at once");
        RumourCircle x = Run.of(6, "p0 p0 p0 d2 p3 h3");
        check.dueSent(x, 3, 1, 4);
        check.dueSent(x, 3, 2, 4);
        x.help(3);
        check.dueSent(x, 3, 1, NONE);
        check.dueSent(x, 3, 2, NONE);
        check.dueMessage(x, 7, Check.packed(REQUEST, 3, 0, 4, 2));
        x.help(3);
        check.dueMessage(x, 8, Check.packed(REQUEST, 3, 5, 4, 0));
    }

    private static void sixTimesBeforeAnother() {
        check.part("\"one that was sent six times is taken out of the buffer\", the other stays");
        RumourCircle x = Run.of(6, "p0 p0 p0 h0");
        check.dueSent(x, 0, 1, 4);
        check.dueSent(x, 0, 2, 3);
        x.help(0);
        check.dueSent(x, 0, 1, NONE);
        check.dueSent(x, 0, 2, 5);
        x.help(0);
        check.dueNews(x, 7, 0, Check.packedNews(2, SUSPECT, 0));
        check.dueNews(x, 7, 1, NONE);
        check.dueNews(x, 8, 0, NONE);
        check.dueSent(x, 0, 2, NONE);
    }

    private static void endOfTheRow() {
        check.part("\"The message comes to the end of the row\", the 24th");
        RumourCircle x = Run.crowded(23);
        check.dueFlying(x, 23);
        check.due("period(4)", x.period(4), 5);
        check.dueFlying(x, 24);
        check.dueMessage(x, 22, Check.packed(REQUEST, 0, 3, 1, 0));
        check.dueMessage(x, 23, Check.packed(PING, 4, 5, 5, 0));
    }

    private static void lostWhenFull() {
        check.part("\"but if 24 are in flight, it is lost\"");
        RumourCircle x = Run.crowded(24);
        check.dueFlying(x, 24);
        check.due("period(4)", x.period(4), 5);
        check.dueFlying(x, 24);
        check.dueMessage(x, 0, Check.packed(PING, 0, 1, 1, 0));
        check.dueMessage(x, 23, Check.packed(REQUEST, 0, 3, 1, 0));
        check.dueMessage(x, 24, NONE);
        // The probe stands without its PING.
        check.dueProbe(x, 4, 5);
        check.due("help(4)", x.help(4), 2);
        check.dueMessage(x, 23, Check.packed(REQUEST, 0, 3, 1, 0));
        // It does not come back when there is room.
        x.lose(0);
        check.dueFlying(x, 23);
        check.dueMessage(x, 22, Check.packed(REQUEST, 0, 3, 1, 0));
    }

    private static void lostNewsCounts() {
        check.part("\"(its news counts as sent all the same)\"");
        RumourCircle x = Run.crowded(24);
        x.period(0);
        check.dueSent(x, 0, 1, 1);
        x.help(0);
        check.dueSent(x, 0, 1, 3);
        x.help(0);
        check.dueSent(x, 0, 1, 5);
        x.help(0);
        check.dueSent(x, 0, 1, NONE);
        check.dueFlying(x, 24);
        for (int k = 0; k < 24; k++) {
            check.due("news of message " + k, x.message(k) % 8, 0);
        }
    }

    private static void arriving() {
        takenOut();
        takenOutOfAFullRow();
        pingToOneThatIsDown();
        requestToOneThatIsDown();
        answerToAHelperThatIsDown();
        answerToAnOriginThatIsDown();
        hearsBothNews();
        hearsBeforeItAnswers();
    }

    private static void takenOut() {
        check.part("\"When a message ARRIVES, it is taken out of the row\"");
        // The first, one in the middle, the last.
        for (int k = 0; k < 3; k++) {
            RumourCircle x = Run.of(6, "p0 p2 p4");
            x.deliver(k);
            check.dueFlying(x, 3);
            int place = 0;
            for (int i = 0; i < 3; i++) {
                if (i != k) {
                    check.dueMessage(x, place, Check.packed(PING, 2 * i, 2 * i + 1, 2 * i + 1, 0));
                    place++;
                }
            }
            check.dueMessage(x, 2, Check.packed(ACK, 2 * k + 1, 2 * k, 2 * k + 1, 0));
            x.deliver(2);
            check.dueFlying(x, 2);
        }
    }

    private static void takenOutOfAFullRow() {
        check.part("\"When a message ARRIVES, it is taken out of the row\", before what it causes is sent");
        RumourCircle x = Run.crowded(24);
        x.deliver(0);
        check.dueFlying(x, 24);
        check.dueMessage(x, 23, Check.packed(ACK, 1, 0, 1, 0));
        x.deliver(2);
        check.dueFlying(x, 24);
        check.dueMessage(x, 22, Check.packed(ACK, 1, 0, 1, 0));
        check.dueMessage(x, 23, Check.packed(PING, 3, 1, 1, 0));
        x.deliver(23);
        check.dueMessage(x, 23, Check.packed(ACK, 1, 3, 1, 0));
        x.deliver(23);
        check.dueMessage(x, 23, Check.packed(ACK, 3, 0, 1, 0));
        x.deliver(23);
        check.dueFlying(x, 23);
        check.dueProbe(x, 0, 9);
    }

    private static void pingToOneThatIsDown() {
        check.part("\"If its receiver b is down, nothing else is done\", a PING");
        RumourCircle x = Run.of(3, "p0 p0 s2");
        check.dueMessage(x, 1, Check.packed(PING, 0, 2, 2, 1));
        check.due("deliver(1)", x.deliver(1), PING);
        check.dueFlying(x, 1);
        check.dueView(x, 2, 1, ALIVE, 0, 0);
        check.dueSent(x, 2, 1, NONE);
    }

    private static void requestToOneThatIsDown() {
        check.part("\"If its receiver b is down, nothing else is done\", a REQUEST");
        RumourCircle x = Run.of(4, "p0 h0 s2");
        check.due("deliver(1)", x.deliver(1), REQUEST);
        check.dueFlying(x, 2);
        check.dueMessage(x, 1, Check.packed(REQUEST, 0, 3, 1, 0));
    }

    private static void answerToAHelperThatIsDown() {
        check.part("\"If its receiver b is down, nothing else is done\", an ACK to a helper");
        RumourCircle x = Run.of(4, "p0 l0 h0 d0 d1");
        check.dueMessage(x, 1, Check.packed(ACK, 1, 2, 1, 0));
        x.stop(2);
        check.due("deliver(1)", x.deliver(1), ACK);
        check.dueFlying(x, 1);
        check.dueProbe(x, 0, 1);
    }

    private static void answerToAnOriginThatIsDown() {
        check.part("\"If its receiver b is down, nothing else is done\", an ACK to the origin");
        RumourCircle x = Run.of(2, "p0 p0 d1");
        check.dueMessage(x, 1, Check.packed(ACK, 1, 0, 1, 1));
        check.dueNews(x, 1, 0, Check.packedNews(1, ALIVE, 1));
        x.stop(0);
        check.due("deliver(1)", x.deliver(1), ACK);
        check.dueProbe(x, 0, 1);
        check.dueView(x, 0, 1, SUSPECT, 0, 0);
        check.dueSent(x, 0, 1, 1);
        check.dueFlying(x, 1);
    }

    private static void hearsBothNews() {
        check.part("\"b HEARS its news, one after the other\"");
        RumourCircle x = Run.of(6, "p0 p0 p0 d2");
        check.dueView(x, 3, 1, SUSPECT, 0, 0);
        check.dueView(x, 3, 2, SUSPECT, 0, 0);
        // One news about another, one about the hearer itself.
        x = Run.of(3, "p0 p0 p0 d2");
        check.dueView(x, 1, 2, SUSPECT, 0, 0);
        check.due("incarnation(1, 1)", x.incarnation(1, 1), 1);
        // None.
        x = Run.of(3, "p0 d0 d0");
        check.due("doubted()", x.doubted(), 0);
    }

    private static void hearsBeforeItAnswers() {
        check.part("\"and then, by the kind\"");
        // What a node answers has the news along that it has just heard: to a PING,
        RumourCircle x = Run.of(3, "p0 p0 d1");
        check.dueMessage(x, 1, Check.packed(ACK, 2, 0, 2, 1));
        check.dueNews(x, 1, 0, Check.packedNews(1, SUSPECT, 0));
        // to a REQUEST,
        x = Run.of(4, "p0 p0 h0 d2");
        check.dueMessage(x, 3, Check.packed(PING, 3, 2, 2, 1));
        check.dueNews(x, 3, 0, Check.packedNews(1, SUSPECT, 0));
        // and to an ACK that it passes on: here, that it is suspected itself.
        x = Run.of(4, "p1 l0 p1 l0 p0 l0 h0 d0 d1");
        check.dueMessage(x, 1, Check.packed(ACK, 1, 2, 1, 1));
        check.dueNews(x, 1, 0, Check.packedNews(2, SUSPECT, 0));
        x.deliver(1);
        check.dueMessage(x, 1, Check.packed(ACK, 2, 0, 1, 1));
        check.dueNews(x, 1, 0, Check.packedNews(2, ALIVE, 1));
    }

    private static void answers() {
        pingIsAnsweredToItsSender();
        pingOfOneHeldForFaulty();
        answerWithTheNumber();
        answerWithAnOldNumber();
        answerForTheSecondTime();
        answerWithoutAProbe();
        answerIsPassedOn();
        answerIsPassedOnTooLate();
        answerThatAHelperMightTakeForItsOwn();
        requestIsFollowed();
        requestAboutOneHeldForFaulty();
    }

    private static void pingIsAnsweredToItsSender() {
        check.part("\"PING: ACK goes from b to the sender\"");
        // A helper's PING: the sender is not the origin.
        RumourCircle x = Run.of(4, "p0 l0 h0 d0");
        check.dueMessage(x, 1, Check.packed(PING, 2, 1, 1, 0));
        x.deliver(1);
        check.dueMessage(x, 1, Check.packed(ACK, 1, 2, 1, 0));
        // The sender has stopped meanwhile.
        x = Run.of(2, "p0 s0 d0");
        check.dueMessage(x, 0, Check.packed(ACK, 1, 0, 1, 0));
    }

    private static void pingOfOneHeldForFaulty() {
        check.part("\"PING: ACK goes from b to the sender\", though it is FAULTY in b's view");
        RumourCircle x = Run.of(2, "p0 p0 p0 p0 p0 p1");
        check.due("status(0, 1)", x.status(0, 1), FAULTY);
        check.due("deliver(4)", x.deliver(4), PING);
        check.dueMessage(x, 4, Check.packed(ACK, 0, 1, 0, 1));
    }

    private static void answerWithTheNumber() {
        check.part("\"if b's probe has this number, it is answered\"");
        RumourCircle x = Run.of(2, "p0 p0 p0 d2");
        check.dueProbe(x, 0, 1);
        x.deliver(2);
        check.dueProbe(x, 0, 9);
    }

    private static void answerWithAnOldNumber() {
        check.part("\"if b's probe has this number, it is answered\", another number");
        // Both probes have the same target.
        RumourCircle x = Run.of(2, "p0 p0 d0");
        check.dueMessage(x, 1, Check.packed(ACK, 1, 0, 1, 0));
        check.due("deliver(1)", x.deliver(1), ACK);
        check.dueProbe(x, 0, 1);
        check.due("help(0)", x.help(0), 0);
        Run.on(x, "d0 d0");
        check.dueProbe(x, 0, 9);
        // An old one does not take the answer back.
        x = Run.of(2, "p0 p0 d1 d1 d0 d0");
        check.dueProbe(x, 0, 9);
    }

    private static void answerForTheSecondTime() {
        check.part("\"if b's probe has this number, it is answered\", again");
        RumourCircle x = Run.of(3, "p0 h0 d0 d1");
        check.dueProbe(x, 0, 9);
        check.dueMessage(x, 0, Check.packed(REQUEST, 0, 2, 1, 0));
        Run.on(x, "d0 d0 d0");
        check.dueMessage(x, 0, Check.packed(ACK, 2, 0, 1, 0));
        check.due("deliver(0)", x.deliver(0), ACK);
        check.dueProbe(x, 0, 9);
        check.dueFlying(x, 0);
    }

    private static void answerWithoutAProbe() {
        check.part("\"if b's probe has this number, it is answered\", no probe any more");
        RumourCircle x = Run.of(2, "p0 p0 p0 p0 p0 d3");
        check.dueMessage(x, 3, Check.packed(ACK, 1, 0, 1, 1));
        check.due("deliver(3)", x.deliver(3), ACK);
        check.dueProbe(x, 0, NONE);
        check.due("help(0)", x.help(0), NONE);
    }

    private static void answerIsPassedOn() {
        check.part("\"If b is not the origin: ACK goes from b to the origin\"");
        RumourCircle x = Run.of(4, "p0 l0 h0 d0 d1 d1");
        check.dueMessage(x, 1, Check.packed(ACK, 2, 0, 1, 0));
        check.dueProbe(x, 0, 1);
        x.deliver(1);
        check.dueProbe(x, 0, 9);
        check.dueFlying(x, 1);
        // The origin has stopped meanwhile.
        x = Run.of(4, "p0 l0 h0 d0 d1 s0 d1");
        check.dueMessage(x, 1, Check.packed(ACK, 2, 0, 1, 0));
    }

    private static void answerIsPassedOnTooLate() {
        check.part("\"with the same origin, target and number\": the answer to an older probe");
        RumourCircle x = Run.of(4, "p0 l0 h0 p0 d0 d2 d2");
        check.dueMessage(x, 2, Check.packed(ACK, 2, 0, 1, 0));
        x.deliver(2);
        check.dueProbe(x, 0, 2);
    }

    private static void answerThatAHelperMightTakeForItsOwn() {
        check.part("\"If b is not the origin\", though b's probe has this number");
        RumourCircle x = Run.of(4, "p0 l0 p2 l0 h0 d0 d1");
        check.dueMessage(x, 1, Check.packed(ACK, 1, 2, 1, 0));
        x.deliver(1);
        check.dueProbe(x, 2, 3);
        check.dueMessage(x, 1, Check.packed(ACK, 2, 0, 1, 0));
    }

    private static void requestIsFollowed() {
        check.part("\"REQUEST: PING goes from b to the target\"");
        RumourCircle x = Run.of(4, "p0 l0 h0 d1");
        check.dueMessage(x, 1, Check.packed(PING, 3, 1, 1, 0));
        // It is no probe of b.
        check.dueProbe(x, 3, NONE);
        // Though the target is down.
        x = Run.of(4, "s1 p0 l0 h0 d0");
        check.dueMessage(x, 1, Check.packed(PING, 2, 1, 1, 0));
    }

    private static void requestAboutOneHeldForFaulty() {
        check.part("\"REQUEST: PING goes from b to the target\", though it is FAULTY in b's view");
        RumourCircle x = Run.of(3, "p2 p2 p2 p2 p2 p2 l0 l0 l0 l0 l0 p0 l0");
        check.due("status(2, 0)", x.status(2, 0), FAULTY);
        check.due("status(2, 1)", x.status(2, 1), FAULTY);
        check.due("help(0)", x.help(0), 1);
        check.due("deliver(0)", x.deliver(0), REQUEST);
        check.dueMessage(x, 0, Check.packed(PING, 2, 1, 1, 2));
    }
}
