/** Counts and prints the answers that are not the ones that are due. */
final class Checks {
    private static final int MOST_PRINTED = 40;

    private int made = 0;
    private int wrong = 0;

    void due(String what, long got, long want) {
        made++;
        if (got != want) {
            wrong++;
            if (wrong <= MOST_PRINTED) {
                System.out.println(what + " answered " + got + ", due is " + want);
            }
        }
    }

    void due(String what, boolean got, boolean want) {
        due(what, got ? 1 : 0, want ? 1 : 0);
    }

    int wrong() {
        return wrong;
    }

    /** Ends the program, with exit code 1 if an answer was wrong or nothing was asked. */
    void end() {
        System.out.println(made + " answers asked, " + wrong + " of them not as due");
        System.exit(wrong == 0 && made > 0 ? 0 : 1);
    }
}
