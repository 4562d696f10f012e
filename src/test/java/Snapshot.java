/**
 * All that the face tells of an object's nodes and messages, as one text: to see that a refused call
 * changed nothing. Two of them stay below the 512 calls that an object is used for.
 */
final class Snapshot {
    private static final int MOST_NODES = 6;

    static String of(RumourCircle x) {
        StringBuilder text = new StringBuilder();
        for (int a = 0; a < MOST_NODES && x.status(a, a) != RumourCircle.NONE; a++) {
            text.append("\n  node ").append(a).append(' ').append(x.isUp(a))
                    .append(" probe ").append(x.probe(a)).append(" view");
            for (int m = 0; m < MOST_NODES; m++) {
                text.append(' ').append(x.status(a, m)).append('/').append(x.incarnation(a, m))
                        .append('/').append(x.timer(a, m)).append('/').append(x.sent(a, m));
            }
        }
        int flying = x.flying();
        text.append("\n  flying ").append(flying);
        for (int k = 0; k < flying; k++) {
            text.append(' ').append(x.message(k)).append('/').append(x.news(k, 0)).append('/').append(x.news(k, 1));
        }
        return text.toString();
    }

    private Snapshot() {
    }
}
