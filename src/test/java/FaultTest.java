import java.util.ArrayList;
import java.util.List;

/**
 * The sentences on draws, references, order, breeding, the archive and the suite, each by itself. For each
 * of them runs are looked for in which the model answers otherwise once it breaks that sentence; there the
 * program has to answer as the whole model does. So each sentence has runs that would show it broken.
 */
final class FaultTest extends Bench {
    private static final int RUNS_FOR_EACH = 4;
    private static final int MOST_RUNS_LOOKED_AT = 20000;

    /** No SET in it, and no goal. */
    private static final int[][] NO_BRANCH = {{ADD, 4, 4, 0}, {RETURN, 4, 0, 0}};
    /** A case comes the nearer to goal 1 the more calls it has, and no field that is drawn comes so near. */
    private static final int[][] LONGER_IS_NEARER = {
        {SET, 3, 0, 1000}, {ADD, 4, 4, 3}, {MUL, 2, 3, 3}, {IFEQ, 4, 2, 5}, {IFEQ, 1, 5, 5}, {RETURN, 4, 0, 0}};
    /** Draws numbers at both ends of the ints. */
    private static final int[][] ENDS_OF_INTS = {
        {SET, 2, 0, MAX}, {SET, 3, 0, MIN}, {IFEQ, 0, 2, 5}, {IFEQ, 1, 3, 5}, {RETURN, 1, 0, 0}, {RETURN, 0, 0, 0}};
    /** Seven branches and eight lines are 22: not watched. Its SET is drawn from all the same. */
    private static final int[][] UNWATCHED = {
        {SET, 2, 0, 50}, {IFEQ, 0, 2, 2}, {IFEQ, 0, 2, 3}, {IFEQ, 0, 2, 4}, {IFEQ, 0, 2, 5}, {IFEQ, 0, 2, 6},
        {IFEQ, 0, 2, 7}, {IFEQ, 0, 2, 8}};
    /** Needs fields that other calls or steps have to set. */
    private static final int[][] NEEDS_FIELDS = {
        {SET, 2, 0, 3}, {IFEQ, 4, 2, 4}, {ADD, 4, 4, 0}, {RETURN, 4, 0, 0}, {IFLT, 5, 2, 6}, {RETURN, 1, 0, 0},
        {IFEQ, 1, 4, 7}};

    private static final int[][] MANY_GOALS = {
        {IFEQ, 0, 4, 3}, {IFLT, 0, 1, 4}, {SET, 5, 0, 20}, {ADD, 4, 4, 0}, {IFEQ, 1, 5, 7}, {IFLT, 4, 5, 7}, {IFEQ, 4, 6, 8},
        {IFLT, 6, 0, 8}};

    /** Each x has a fitness of its own for the one active goal, which is out of reach: as many fronts as cases. */
    private static final int[][] OUT_OF_REACH = {{SET, 3, 0, 1000}, {MUL, 2, 3, 3}, {IFEQ, 0, 2, 4}, {RETURN, 0, 0, 0}};
    /** The same for two goals, one by x and one by y. */
    private static final int[][] BOTH_OUT_OF_REACH = {
        {SET, 3, 0, 1000}, {MUL, 2, 3, 3}, {IFEQ, 0, 2, 3}, {IFEQ, 1, 2, 4}, {RETURN, 0, 0, 0}};

    private static final int[][][][] WORLDS = {
        {NO_BRANCH, NO_LINES}, {CHAIN, COUNT_UP}, {LONGER_IS_NEARER, NO_BRANCH}, {ENDS_OF_INTS, ONE_IF},
        {UNWATCHED, NEEDS_FIELDS}, {NEEDS_FIELDS, TWO_WAYS}, {MANY_GOALS, MANY_GOALS}, {OUT_OF_REACH, NO_LINES},
        {BOTH_OUT_OF_REACH, NO_LINES}};

    /** Which methods are written and which calls are made. */
    private record Run(int seed, int[][][] world, int evolves) {
    }

    /** Runs that show what one run in some forty thousand shows: two cases in front 4 and a shorter one behind them. */
    private static final Run[] RARE_RUNS = {
        rareRun(56329, 8), rareRun(67141, 6), rareRun(128552, 8), rareRun(150542, 3)};

    private FaultTest() {
    }

    public static void main(String[] args) {
        FaultTest test = new FaultTest();
        for (Fault fault : Fault.values()) {
            test.showsBroken(fault);
        }
        test.checks.end();
    }

    private static Run rareRun(int seed, int evolves) {
        return new Run(seed, new int[][][] {BOTH_OUT_OF_REACH, NO_LINES}, evolves);
    }

    private static Run run(int n) {
        return n < RARE_RUNS.length ? RARE_RUNS[n] : new Run(n, WORLDS[n % WORLDS.length], n / WORLDS.length % 40);
    }

    private void showsBroken(Fault fault) {
        says(fault.sentence);
        int shown = 0;
        for (int n = 0; n < MOST_RUNS_LOOKED_AT && shown < RUNS_FOR_EACH; n++) {
            Model whole = model(run(n), null);
            if (!answers(whole).equals(answers(model(run(n), fault)))) {
                shown++;
                compare(fault, run(n), whole);
            }
        }
        due(fault + " shows in so many runs", shown, RUNS_FOR_EACH);
    }

    // ---- the same calls to the model and to the program ----

    private static Model model(Run run, Fault fault) {
        Model model = new Model(run.seed, fault);
        for (int m = 0; m < 2; m++) {
            for (int[] line : run.world[m]) {
                model.line(m, line[0], line[1], line[2], line[3]);
            }
        }
        model.start();
        for (int n = 0; n < run.evolves; n++) {
            if (n == run.evolves / 2) {
                model.finish();
            }
            model.evolve();
        }
        model.finish();
        return model;
    }

    private static BranchGoals program(Run run) {
        BranchGoals object = written(run.seed, run.world[0], run.world[1]);
        object.start();
        for (int n = 0; n < run.evolves; n++) {
            if (n == run.evolves / 2) {
                object.finish();
            }
            object.evolve();
        }
        object.finish();
        return object;
    }

    // ---- what can be asked ----

    private static List<Integer> whiches(int goals) {
        List<Integer> whiches = new ArrayList<>();
        for (int n = 0; n < 7; n++) {
            whiches.add(n);
        }
        for (int n = 0; n <= goals; n++) {
            whiches.add(100 + n);
            whiches.add(200 + n);
        }
        return whiches;
    }

    private static List<Long> answers(Model model) {
        List<Long> all = new ArrayList<>(List.of(model.state, (long) model.runs, (long) model.found(), (long) model.active(),
                (long) model.reported()));
        for (int which : whiches(model.goals())) {
            all.add((long) model.length(which));
            for (int j = 0; j < model.length(which); j++) {
                for (int part = 0; part < 4; part++) {
                    all.add((long) model.step(which, j, part));
                }
            }
        }
        return all;
    }

    private void compare(Fault fault, Run run, Model model) {
        String what = fault + " in seed " + run.seed + " after " + run.evolves + " evolves: ";
        BranchGoals object = program(run);
        due(what + "state()", object.state(), model.state);
        due(what + "runs()", object.runs(), model.runs);
        due(what + "found()", object.found(), model.found());
        due(what + "active()", object.active(), model.active());
        due(what + "reported()", object.reported(), model.reported());
        for (int which : whiches(model.goals())) {
            // One object is not used for more than 512 calls, so each case is asked of a new one.
            compareCase(what, which, program(run), model);
        }
    }

    private void compareCase(String what, int which, BranchGoals object, Model model) {
        due(what + "length(" + which + ")", object.length(which), model.length(which));
        due(what + "covers(" + which + ")", object.covers(which), model.covers(which));
        for (int j = 0; j < model.length(which); j++) {
            for (int part = 0; part < 4; part++) {
                String ask = "step(" + which + ", " + j + ", " + part + ")";
                due(what + ask, object.step(which, j, part), model.step(which, j, part));
            }
            due(what + "result(" + which + ", " + j + ")", object.result(which, j), model.result(which, j));
        }
        for (int g = 0; g < model.goals(); g++) {
            due(what + "fitness(" + which + ", " + g + ")", object.fitness(which, g), model.fitness(which, g));
        }
    }
}
