/** Counts the answers that are not due, and ends a test with exit code 1 if there was one. */
final class Checks {
    // A fault that many checks see is told well enough by the first ones.
    private static final int MOST_TOLD = 40;

    private int wrong = 0;
    private int made = 0;

    void due(String what, long want, long got) {
        made++;
        if (want != got) {
            wrong++;
            tell(what + ": answered " + got + ", due is " + want);
        }
    }

    void due(String what, boolean want, boolean got) {
        due(what, want ? 1 : 0, got ? 1 : 0);
    }

    private void tell(String fault) {
        if (wrong <= MOST_TOLD) {
            System.out.println(fault);
        }
    }

    int wrong() {
        return wrong;
    }

    void end() {
        System.out.println(made + " checks, " + wrong + " wrong");
        if (wrong != 0) {
            System.exit(1);
        }
    }
}
