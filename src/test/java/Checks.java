/** Counts the answers that are not due, and ends a test with exit code 1 if there was one. */
final class Checks {
    private int wrong = 0;
    private int made = 0;

    void due(String what, long want, long got) {
        made++;
        if (want != got) {
            wrong++;
            System.out.println(what + ": answered " + got + ", due is " + want);
        }
    }

    void due(String what, boolean want, boolean got) {
        due(what, want ? 1 : 0, got ? 1 : 0);
    }

    int wrong() {
        return wrong;
    }

    void end() {
        System.out.println(made + " checks, " + wrong + " wrong");
        if (wrong != 0) {
            System.exit(1);
        }
    }
}
