/** Counts the answers that are not the due ones, and prints the first of them in each part. */
final class Check {
    private static final int MOST_PRINTED = 10;

    private int wrong = 0;
    private int wrongInPart = 0;
    private String part = "";

    static int packed(int kind, int sender, int receiver, int target, int newsCount) {
        return kind * 4096 + sender * 512 + receiver * 64 + target * 8 + newsCount;
    }

    static long packedNews(int node, int status, int incarnation) {
        return node * 4L + status + incarnation * 64L;
    }

    void part(String name) {
        part = name;
        wrongInPart = 0;
    }

    void due(String what, long got, long want) {
        if (got != want) {
            report(what + " answered " + got + ", due is " + want);
        }
    }

    void due(String what, boolean got, boolean want) {
        due(what, got ? 1L : 0L, want ? 1L : 0L);
    }

    void due(String what, String got, String want) {
        if (!got.equals(want)) {
            report(what + " answered\n  " + got + "\ndue is\n  " + want);
        }
    }

    void dueView(RumourCircle x, int a, int m, int status, int incarnation, int timer) {
        due("status(" + a + ", " + m + ")", x.status(a, m), status);
        due("incarnation(" + a + ", " + m + ")", x.incarnation(a, m), incarnation);
        due("timer(" + a + ", " + m + ")", x.timer(a, m), timer);
    }

    void dueProbe(RumourCircle x, int a, int want) {
        due("probe(" + a + ")", x.probe(a), want);
    }

    void dueSent(RumourCircle x, int a, int m, int want) {
        due("sent(" + a + ", " + m + ")", x.sent(a, m), want);
    }

    void dueFlying(RumourCircle x, int want) {
        due("flying()", x.flying(), want);
    }

    void dueMessage(RumourCircle x, int k, int want) {
        due("message(" + k + ")", x.message(k), want);
    }

    void dueNews(RumourCircle x, int k, int j, long want) {
        due("news(" + k + ", " + j + ")", x.news(k, j), want);
    }

    void end() {
        System.out.println(wrong == 0 ? "all answers are as due" : wrong + " answers are not as due");
        if (wrong != 0) {
            System.exit(1);
        }
    }

    private void report(String text) {
        wrong++;
        wrongInPart++;
        if (wrongInPart <= MOST_PRINTED) {
            System.out.println(part + ": " + text);
        }
    }
}
