/** Counts the answers that are not the due ones, and prints the first of them. */
final class Check {
    private static final int MOST_PRINTED = 50;

    private int wrong = 0;
    private String part = "";

    void part(String name) {
        part = name;
    }

    void due(String what, long got, long want) {
        if (got != want) {
            report(what + " answered " + got + ", due is " + want);
        }
    }

    void due(String what, boolean got, boolean want) {
        due(what, got ? 1L : 0L, want ? 1L : 0L);
    }

    void due(String what, String got, String want) {
        if (!got.equals(want)) {
            report(what + " answered\n  " + got + "\ndue is\n  " + want);
        }
    }

    void end() {
        System.out.println(wrong == 0 ? "all answers are as due" : wrong + " answers are not as due");
        if (wrong != 0) {
            System.exit(1);
        }
    }

    private void report(String text) {
        wrong++;
        if (wrong <= MOST_PRINTED) {
            System.out.println(part + ": " + text);
        }
    }
}
