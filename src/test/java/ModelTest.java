import java.util.Random;

/** Long mixed runs, of which every answer is compared with the model's. */
public final class ModelTest {
    private static final int RUNS = 3000;
    // What an object is used for at most.
    private static final int CALLS = 512;

    private static final int PERIOD = 0;
    private static final int HELP = 1;
    private static final int DELIVER = 2;
    private static final int LOSE = 3;
    private static final int ROUND = 4;
    private static final int STOP = 5;

    // How often each of the six changing calls comes, of a hundred.
    private static final int[][] MIXES = {
        {30, 10, 50, 8, 1, 1},
        {45, 20, 33, 2, 0, 0},
        {20, 5, 10, 5, 59, 1},
        {20, 15, 60, 5, 0, 0},
        {35, 5, 40, 18, 1, 1},
    };

    private final Check check = new Check();
    private final Random random = new Random(20261115);
    private RumourCircle x;
    private Model y;

    public static void main(String[] args) {
        new ModelTest().all();
    }

    private void all() {
        for (int run = 0; run < RUNS; run++) {
            int n = random.nextInt(10) == 0 ? random.nextInt(40) - 20 : 2 + random.nextInt(5);
            check.part("run " + run + " with " + n);
            x = new RumourCircle(n);
            y = new Model(n);
            oneRun(MIXES[run % MIXES.length]);
        }
        check.end();
    }

    private void oneRun(int[] mix) {
        for (int call = 0; call < CALLS; call += 2) {
            change(pick(mix));
            look(random.nextInt(11));
        }
    }

    private int pick(int[] mix) {
        int left = random.nextInt(100);
        int kind = 0;
        while (kind < STOP && left >= mix[kind]) {
            left -= mix[kind];
            kind++;
        }
        return kind;
    }

    private int someNode() {
        return random.nextInt(30) == 0 ? wild() : random.nextInt(y.n);
    }

    private int someMessage() {
        return random.nextInt(30) == 0 ? wild() : random.nextInt(Math.max(1, y.row.size()));
    }

    private int wild() {
        int[] odd = {-1, y.n, 6, 8, 24, y.row.size(), Integer.MIN_VALUE, Integer.MAX_VALUE, random.nextInt()};
        return odd[random.nextInt(odd.length)];
    }

    private void change(int kind) {
        int a = someNode();
        int k = someMessage();
        switch (kind) {
            case PERIOD:
                check.due("period(" + a + ")", x.period(a), y.period(a));
                break;
            case HELP:
                check.due("help(" + a + ")", x.help(a), y.help(a));
                break;
            case DELIVER:
                check.due("deliver(" + k + ")", x.deliver(k), y.deliver(k));
                break;
            case LOSE:
                check.due("lose(" + k + ")", x.lose(k), y.lose(k));
                break;
            case ROUND:
                check.due("round()", x.round(), y.round());
                break;
            default:
                check.due("stop(" + a + ")", x.stop(a), y.stop(a));
                break;
        }
    }

    private void look(int kind) {
        int a = someNode();
        int m = someNode();
        int k = someMessage();
        int j = random.nextInt(10) == 0 ? wild() : random.nextInt(2);
        switch (kind) {
            case 0:
                check.due("isUp(" + a + ")", x.isUp(a), y.isUp(a));
                break;
            case 1:
                check.due("status(" + a + ", " + m + ")", x.status(a, m), y.status(a, m));
                break;
            case 2:
                check.due("incarnation(" + a + ", " + m + ")", x.incarnation(a, m), y.incarnation(a, m));
                break;
            case 3:
                check.due("timer(" + a + ", " + m + ")", x.timer(a, m), y.timer(a, m));
                break;
            case 4:
                check.due("probe(" + a + ")", x.probe(a), y.probe(a));
                break;
            case 5:
                check.due("sent(" + a + ", " + m + ")", x.sent(a, m), y.sent(a, m));
                break;
            case 6:
                check.due("flying()", x.flying(), y.row.size());
                break;
            case 7:
                check.due("message(" + k + ")", x.message(k), y.message(k));
                break;
            case 8:
                check.due("news(" + k + ", " + j + ")", x.news(k, j), y.news(k, j));
                break;
            case 9:
                check.due("declared(" + m + ")", x.declared(m), y.declared(m));
                break;
            default:
                check.due("doubted()", x.doubted(), y.doubted());
                break;
        }
    }
}
