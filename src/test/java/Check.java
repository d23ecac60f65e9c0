/** Counts and prints the answers that are not the ones that are due. */
final class Check {
    private int wrong;
    private int asked;

    void due(String what, long got, long want) {
        asked++;
        if (got != want) {
            wrong++;
            System.out.println(what + " answered " + got + ", due is " + want);
        }
    }

    void due(String what, boolean got, boolean want) {
        due(what, got ? 1L : 0L, want ? 1L : 0L);
    }

    void yes(String what, boolean got) {
        due(what, got, true);
    }

    void no(String what, boolean got) {
        due(what, got, false);
    }

    /** Ends the program, with exit code 1 if there was a wrong answer. */
    void end() {
        System.out.println(asked + " answers, " + wrong + " of them wrong");
        if (wrong != 0 || asked == 0) {
            System.exit(1);
        }
    }
}
