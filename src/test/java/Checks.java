/** Compares answers with those that are due, and ends a test with exit code 1 if one was wrong. */
final class Checks {
    private int made;
    private int wrong;

    void due(String what, long got, long want) {
        made++;
        if (got != want) {
            wrong++;
            System.out.println(what + " answered " + got + ", due is " + want);
        }
    }

    void due(String what, boolean got, boolean want) {
        due(what, got ? 1 : 0, want ? 1 : 0);
    }

    void due(String what, String got, String want) {
        if (!got.equals(want)) {
            System.out.println(what + " is [" + got + "], due is [" + want + "]");
        }
        due(what, got.equals(want), true);
    }

    boolean allRight() {
        return wrong == 0;
    }

    void end() {
        System.out.println((made - wrong) + " answers as due, " + wrong + " not");
        if (wrong != 0 || made == 0) {
            System.exit(1);
        }
    }
}
