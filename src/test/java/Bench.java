/** What the tests written by hand share: the ops, small methods to try, and ways to set up an object. */
abstract class Bench {
    static final int SET = 0;
    static final int ADD = 1;
    static final int SUB = 2;
    static final int MUL = 3;
    static final int DIV = 4;
    static final int IFEQ = 5;
    static final int IFLT = 6;
    static final int GO = 7;
    static final int RETURN = 8;
    static final int FAIL = 9;

    static final int MIN = Integer.MIN_VALUE;
    static final int MAX = Integer.MAX_VALUE;
    static final long BASE = 4294967296L;
    static final long LEVEL = 8589934592L;
    static final long FAR = 64 * LEVEL;
    static final long MASK = (1L << 48) - 1;

    static final int[][] NO_LINES = {};
    /** Goal 1 when x = y; a loop is not in it. */
    static final int[][] ONE_IF = {{IFEQ, 0, 1, 2}, {RETURN, 0, 0, 0}, {RETURN, 1, 0, 0}};
    /** Counts v2 up to x: a call with x > 0 covers goals 0 and 1, one with x <= 0 only goal 0. */
    static final int[][] COUNT_UP = {
        {IFLT, 2, 0, 2}, {RETURN, 2, 0, 0}, {SET, 3, 0, 1}, {ADD, 2, 2, 3}, {GO, 0, 0, 0}};
    /** Branch 1 depends on goal 1, branch 2 on goal 3. */
    static final int[][] CHAIN = {
        {IFEQ, 0, 1, 2}, {RETURN, 0, 0, 0}, {IFEQ, 0, 4, 4}, {RETURN, 0, 0, 0}, {IFLT, 5, 0, 6}, {RETURN, 0, 0, 0}};
    /** Branch 2 can be reached by goal 1 and by goal 3. */
    static final int[][] TWO_WAYS = {
        {IFEQ, 0, 1, 3}, {IFEQ, 0, 4, 3}, {RETURN, 0, 0, 0}, {IFLT, 0, 5, 5}, {RETURN, 0, 0, 0}};

    final Checks checks = new Checks();
    private String sentence = "";

    /** Names the document's sentence that the checks from here on are about. */
    final void says(String words) {
        sentence = "\"" + words + "\": ";
    }

    final void due(String what, long got, long want) {
        checks.due(sentence + what, got, want);
    }

    final void due(String what, boolean got, boolean want) {
        checks.due(sentence + what, got, want);
    }

    static BranchGoals written(int seed, int[][] zero, int[][] one) {
        BranchGoals object = new BranchGoals(seed);
        for (int[] line : zero) {
            object.line(0, line[0], line[1], line[2], line[3]);
        }
        for (int[] line : one) {
            object.line(1, line[0], line[1], line[2], line[3]);
        }
        return object;
    }

    static BranchGoals started(int[][] zero, int[][] one) {
        BranchGoals object = written(1, zero, one);
        object.start();
        return object;
    }

    /** Started by the first seed that leaves all goals open, so that a test's own cases are archived. */
    static BranchGoals startedQuietly(int[][] zero, int[][] one) {
        for (int seed = 0; seed < 100000; seed++) {
            BranchGoals object = written(seed, zero, one);
            object.start();
            if (object.found() == 0) {
                return object;
            }
        }
        throw new IllegalStateException("every start finds a goal");
    }

    static int runCall(BranchGoals object, int kind, int x, int y) {
        object.put(kind, x, y, -1);
        return object.run();
    }

    /** Writes the steps given as kind, x, y and ref, and runs them. */
    static int runSteps(BranchGoals object, int[]... steps) {
        for (int[] step : steps) {
            object.put(step[0], step[1], step[2], step[3]);
        }
        return object.run();
    }

    static long drawn(long state) {
        return (state * 25214903917L + 11) & MASK;
    }
}
