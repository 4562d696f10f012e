/** All that the face tells of an object, as one text: to see that a refused call changed nothing. */
final class Snapshot {
    // Past the six nodes and past 24 messages, so that the edges are in the text too.
    private static final int LAST_NODE = 7;
    private static final int LAST_MESSAGE = 25;

    static String of(RumourCircle x) {
        StringBuilder text = new StringBuilder();
        for (int a = -1; a <= LAST_NODE; a++) {
            text.append("\n  node ").append(a).append(' ').append(x.isUp(a))
                    .append(" probe ").append(x.probe(a))
                    .append(" declared ").append(x.declared(a)).append(" view");
            for (int m = -1; m <= LAST_NODE; m++) {
                text.append(' ').append(x.status(a, m)).append('/').append(x.incarnation(a, m))
                        .append('/').append(x.timer(a, m)).append('/').append(x.sent(a, m));
            }
        }
        text.append("\n  doubted ").append(x.doubted()).append(" flying ").append(x.flying());
        for (int k = -1; k <= LAST_MESSAGE; k++) {
            text.append(' ').append(x.message(k));
            for (int j = -1; j <= 2; j++) {
                text.append('/').append(x.news(k, j));
            }
        }
        return text.toString();
    }

    private Snapshot() {
    }
}
