/** Counts and prints the answers of one archive that are not the ones that are due. */
final class Checks {
    private int wrong = 0;

    /** The answer that is due, from a call that has STATUS 0. */
    void gives(String what, BoxArchive x, long got, long want) {
        due(what, got, want);
        due(what + ", its STATUS", x.status(), 0);
    }

    void does(String what, BoxArchive x, boolean got) {
        due(what, got ? 1 : 0, 1);
        due(what + ", its STATUS", x.status(), 0);
    }

    void refuses(String what, BoxArchive x, long got, int status) {
        due(what, got, BoxArchive.NONE);
        due(what + ", its STATUS", x.status(), status);
    }

    void refuses(String what, BoxArchive x, boolean got, int status) {
        due(what, got ? 1 : 0, 0);
        due(what + ", its STATUS", x.status(), status);
    }

    void due(String what, long got, long want) {
        if (got != want) {
            wrong++;
            System.out.println(what + ": answered " + got + ", due is " + want);
        }
    }

    void end() {
        if (wrong != 0) {
            System.out.println(wrong + " answers are not as due");
            System.exit(1);
        }
    }
}
