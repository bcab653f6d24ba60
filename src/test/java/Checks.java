/** Counts the answers that are as due, and prints those that are not. */
final class Checks {
    private final String name;
    private int passed = 0;
    private int failed = 0;

    Checks(String name) {
        this.name = name;
    }

    void due(String what, long got, long want) {
        if (got == want) {
            passed++;
        } else {
            failed++;
            System.out.println(name + ": " + what + " answered " + got + ", due is " + want);
        }
    }

    void holds(String what, boolean itDoes) {
        due(what, itDoes ? 1 : 0, 1);
    }

    void same(String what, String got, String want) {
        if (got.equals(want)) {
            passed++;
        } else {
            failed++;
            System.out.println(name + ": " + what + " differs: " + Seen.difference(got, want));
        }
    }

    int failures() {
        return failed;
    }

    void finish() {
        System.out.println(name + ": " + passed + " passed, " + failed + " failed");
        if (failed > 0) {
            System.exit(1);
        }
    }
}
