/**
 * Runs of calls told in short, such as "p0 h0 d3": p is period, h help, d deliver, l lose and s stop,
 * each with its number; r is round.
 */
final class Run {
    static RumourCircle of(int n, String calls) {
        RumourCircle x = new RumourCircle(n);
        on(x, calls);
        return x;
    }

    static void on(RumourCircle x, String calls) {
        for (String call : calls.split(" ")) {
            one(x, call);
        }
    }

    /** The answer of one call; a boolean counts 1 or 0. */
    static int one(RumourCircle x, String call) {
        int number = call.length() > 1 ? Integer.parseInt(call.substring(1)) : 0;
        switch (call.charAt(0)) {
            case 'p':
                return x.period(number);
            case 'h':
                return x.help(number);
            case 'd':
                return x.deliver(number);
            case 'l':
                return x.lose(number) ? 1 : 0;
            case 's':
                return x.stop(number) ? 1 : 0;
            case 'r':
                return x.round();
            default:
                throw new IllegalArgumentException(call);
        }
    }

    /**
     * Six nodes and a row with 1 .. 24 messages without news: the PINGs of node 0 and, if the number is
     * even, of node 1; the others are REQUESTs of 0 to 2 and 3, in turn, about its probe of 1.
     */
    static RumourCircle crowded(int flying) {
        RumourCircle x = of(6, flying % 2 == 0 ? "p0 p1" : "p0");
        for (int count = x.flying(); count < flying; count += 2) {
            x.help(0);
        }
        return x;
    }

    private Run() {
    }
}
