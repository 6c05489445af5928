/** Counts answers that are not due, tells each, and ends a test. */
final class Check {
    private final String name;
    private int asked;
    private int wrong;

    Check(String name) {
        this.name = name;
    }

    void due(String call, long got, long want) {
        asked++;
        if (got != want) {
            wrong++;
            System.out.println(name + ": " + call + " answered " + got + ", due is " + want);
        }
    }

    void due(String call, boolean got, boolean want) {
        due(call, got ? 1 : 0, want ? 1 : 0);
    }

    /** A call that answers, with STATUS 0. */
    void fine(ChosenRelays x, String call, long got, long want) {
        due(call, got, want);
        due("status() behind " + call, x.status(), 0);
    }

    /** A call that answers NONE (or false, as 0) with a STATUS. */
    void refused(ChosenRelays x, String call, long got, int status) {
        due(call, got, ChosenRelays.NONE);
        due("status() behind " + call, x.status(), status);
    }

    void refused(ChosenRelays x, String call, boolean got, int status) {
        due(call, got, false);
        due("status() behind " + call, x.status(), status);
    }

    void end() {
        System.out.println(name + ": " + asked + " answers, " + wrong + " not as due");
        if (wrong != 0) {
            System.exit(1);
        }
    }
}
