/** The sentences of promises 1 to 19, and of WHICH, that name an edge: each has a test of its own. */
final class EdgesTest extends Bench {
    private static final int[] NO_METHODS = {-1, 2, 3, 4, MIN, MAX};
    /** v4 and v5 grow by y in method 0, v5 in method 1, so that later calls need the earlier ones. */
    private static final int[][] GROW_BOTH = {{IFEQ, 0, 4, 1}, {ADD, 4, 4, 1}, {ADD, 5, 5, 1}};
    private static final int[][] GROW_ONE = {{IFEQ, 0, 5, 1}, {ADD, 5, 5, 1}};
    /** Six branches in eight lines are 20: as many goals as a method can have. */
    private static final int[][] SIX_BRANCHES = {{IFEQ, 0, 4, 8}, {IFEQ, 0, 5, 8}, {IFEQ, 0, 6, 8}, {IFEQ, 0, 7, 8},
        {IFEQ, 0, 1, 8}, {IFLT, 0, 1, 8}, {ADD, 4, 4, 0}, {RETURN, 0, 0, 0}};

    private EdgesTest() {
    }

    public static void main(String[] args) {
        EdgesTest test = new EdgesTest();
        test.nothingInANewObject();
        test.stateOfASeed();
        test.lineWhenStarted();
        test.lineOfNoMethod();
        test.lineBehindTen();
        test.lineWithNoOp();
        test.lineWithNoVariable();
        test.lineWithNoLine();
        test.startTellsGoals();
        test.startDrawsTwo();
        test.startDrawsOfTwentySets();
        test.startTwice();
        test.watchedBeforeTheStart();
        test.watchedOfNoMethod();
        test.dependsBeforeTheStart();
        test.dependsOfNoGoal();
        test.putBeforeTheStart();
        test.putBehindSix();
        test.putNoKind();
        test.putNoRef();
        test.putNotLookedAt();
        test.runThenNothingIsWritten();
        test.runTellsSets();
        test.runBeforeTheStart();
        test.runOfNothing();
        test.runLeavesThePopulation();
        test.evolveBeforeTheStart();
        test.evolveTellsFound();
        test.evolveToFive();
        test.finishBeforeTheStart();
        test.finishWithNothingFound();
        test.finishAnew();
        test.finishOfWhatIsCoveredSoFar();
        test.finishDropsFromTheFirst();
        test.finishDropsForAKeptOne();
        test.finishKeepsTheOrder();
        test.cutDownToOneStep();
        test.cutNotWhatIsReferredTo();
        test.cutForItsGoal();
        test.foundBeforeTheStart();
        test.activeBeforeTheStart();
        test.reportedWithoutSuite();
        test.noPopulation();
        test.noLatest();
        test.noArchived();
        test.noSuite();
        test.noStep();
        test.noPart();
        test.noGoal();
        test.noResult();
        test.runsAreCounted();
        test.askingIsNoRun();
        test.stateBetweenDraws();
        test.refusedChangesNothing();
        test.checks.end();
    }

    private void dueNoCase(String what, BranchGoals object, int... whiches) {
        for (int which : whiches) {
            due(what + ": length(" + which + ")", object.length(which), 0);
            for (int part = 0; part < 4; part++) {
                due(what + ": step(" + which + ", 0, " + part + ")", object.step(which, 0, part), 0);
            }
            due(what + ": covers(" + which + ")", object.covers(which), 0);
            due(what + ": fitness(" + which + ", 0)", object.fitness(which, 0), -1);
            due(what + ": result(" + which + ", 0)", object.result(which, 0), BASE + 4);
        }
    }

    private void dueStep(String what, BranchGoals object, int which, int j, int... want) {
        for (int part = 0; part < 4; part++) {
            due(what + ": step(" + which + ", " + j + ", " + part + ")", object.step(which, j, part), want[part]);
        }
    }

    /** A hash of all that can be asked of one case. */
    private static long caseHash(BranchGoals object, int which) {
        long hash = object.length(which) * 31L + object.covers(which);
        for (int j = 0; j < object.length(which); j++) {
            for (int part = 0; part < 4; part++) {
                hash = hash * 31 + object.step(which, j, part);
            }
            hash = hash * 31 + object.result(which, j);
        }
        return hash * 31 + object.fitness(which, 0) + object.fitness(which, 1);
    }

    private static long populationHash(BranchGoals object) {
        long hash = 0;
        for (int which = 0; which <= 5; which++) {
            hash = hash * 37 + caseHash(object, which);
        }
        return hash;
    }

    // ---- promise 1 ----

    private void nothingInANewObject() {
        says("No lines, nothing started, no step written");
        BranchGoals object = new BranchGoals(5);
        due("runs", object.runs(), 0);
        due("found", object.found(), 0);
        due("active", object.active(), 0);
        due("reported", object.reported(), 0);
        due("watched", object.watched(0) || object.watched(1), false);
        due("evolve", object.evolve(), -1);
        dueNoCase("new", object, -1, 0, 1, 2, 100, 101, 200);
        due("no lines: no goals", object.start(), 0);
        due("no step written", object.run(), -1);
        for (int m = 0; m < 2; m++) {
            runCall(object, m, 5, 6);
            due("no lines: method " + m + " ends at once", object.result(-1, 0), 0);
        }
    }

    private void stateOfASeed() {
        says("the state is the lowest 48 bits of (seed xor 25214903917), seed as a long");
        int[] seeds = {0, 1, 7, -1, -2, MIN, MAX, -554899859};
        long[] want = {25214903917L, 25214903916L, 25214903914L, 281449761806738L, 281449761806739L, 281450799490669L,
            24177219986L, 281449206906880L};
        for (int n = 0; n < seeds.length; n++) {
            due("seed " + seeds[n], new BranchGoals(seeds[n]).state(), want[n]);
        }
    }

    // ---- promise 2 ----

    private void lineWhenStarted() {
        says("line: false when started");
        BranchGoals object = started(ONE_IF, NO_LINES);
        for (int m = 0; m < 2; m++) {
            due("method " + m, object.line(m, RETURN, 0, 0, 0), false);
        }
        runCall(object, 1, 5, 6);
        due("method 1 has no line still", object.result(-1, 0), 0);
    }

    private void lineOfNoMethod() {
        says("m is not 0 or 1");
        for (int m : NO_METHODS) {
            due("method " + m, new BranchGoals(0).line(m, RETURN, 0, 0, 0), false);
        }
        due("method 0", new BranchGoals(0).line(0, RETURN, 0, 0, 0), true);
        due("method 1", new BranchGoals(0).line(1, RETURN, 0, 0, 0), true);
    }

    private void lineBehindTen() {
        says("it has 10 lines");
        for (int m = 0; m < 2; m++) {
            BranchGoals object = new BranchGoals(0);
            for (int i = 0; i < 10; i++) {
                due("line " + i + " of method " + m, object.line(m, i < 9 ? ADD : RETURN, 4, 4, 0), true);
            }
            for (int op = 0; op < 10; op++) {
                due("an eleventh of op " + op, object.line(m, op, 0, 0, 0), false);
            }
            due("the other method has room", object.line(1 - m, ADD, 4, 4, 0), true);
            object.start();
            runCall(object, m, 3, 0);
            due("ten lines are done", object.result(-1, 0), 27);
        }
    }

    private void lineWithNoOp() {
        says("op is not 0 .. 9");
        for (int op : new int[] {-1, 10, 11, MIN, MAX}) {
            due("op " + op, new BranchGoals(0).line(0, op, 0, 0, 0), false);
        }
        for (int op = 0; op < 10; op++) {
            due("op " + op, new BranchGoals(0).line(0, op, 0, 0, 0), true);
        }
    }

    private static boolean takes(int op, int place, int number) {
        return new BranchGoals(0).line(1, op, place == 0 ? number : 0, place == 1 ? number : 0, place == 2 ? number : 0);
    }

    private void lineWithNoVariable() {
        says("a number of those a, b, c which the op names as a variable is not 0 .. 7");
        int[][] named = {{SET, 0}, {ADD, 0}, {ADD, 1}, {ADD, 2}, {SUB, 0}, {SUB, 1}, {SUB, 2}, {MUL, 0}, {MUL, 1}, {MUL, 2},
            {DIV, 0}, {DIV, 1}, {DIV, 2}, {IFEQ, 0}, {IFEQ, 1}, {IFLT, 0}, {IFLT, 1}, {RETURN, 0}};
        for (int[] one : named) {
            String what = "op " + one[0] + ", " + "abc".charAt(one[1]) + " ";
            for (int number = 0; number < 8; number++) {
                due(what + number, takes(one[0], one[1], number), true);
            }
            for (int number : new int[] {-1, 8, 10, MIN, MAX}) {
                due(what + number, takes(one[0], one[1], number), false);
            }
        }
    }

    private void lineWithNoLine() {
        says("or one that it names as a line is not 0 .. 10");
        for (int op = IFEQ; op <= GO; op++) {
            for (int c = 0; c <= 10; c++) {
                due("op " + op + " to line " + c, takes(op, 2, c), true);
            }
            for (int c : new int[] {-1, 11, MIN, MAX}) {
                due("op " + op + " to line " + c, takes(op, 2, c), false);
            }
        }
        for (int op : new int[] {SET, RETURN, FAIL}) {
            due("op " + op + " names none", takes(op, 2, MIN) && takes(op, 2, 11), true);
        }
    }

    // ---- promise 3 ----

    private void startTellsGoals() {
        says("start: Answers the number of goals");
        due("none", written(0, NO_LINES, NO_LINES).start(), 0);
        due("one branch", written(0, NO_LINES, ONE_IF).start(), 2);
        due("two methods", written(0, CHAIN, ONE_IF).start(), 8);
        due("the most", written(0, SIX_BRANCHES, SIX_BRANCHES).start(), 24);
    }

    private void startDrawsTwo() {
        says("a case is drawn, run and archived, then a second one likewise; both are put in order and are the population");
        for (int seed = 0; seed < 50; seed++) {
            BranchGoals object = written(seed, NO_LINES, NO_LINES);
            object.start();
            due("runs", object.runs(), 2);
            due("of one or two steps", object.length(0) >= 1 && object.length(1) <= 2, true);
            due("the shorter first", object.length(0) <= object.length(1), true);
            dueNoCase("a third", object, 2, 3, 4);
        }
    }

    /** Both methods are full of SET; the first number of the first case is drawn by hand. */
    private void startDrawsOfTwentySets() {
        says("Else the c of line SET number DRAW(how many there are) (counted from 0 through method 0 and then 1)");
        for (int seed = 0; seed < 300; seed++) {
            BranchGoals object = new BranchGoals(seed);
            for (int i = 0; i < 20; i++) {
                object.line(i / 10, SET, 2, 0, 100 * (i + 1));
            }
            long state = drawn(drawn(object.state()));
            boolean isField = (state >> 17) % 5 == 4;
            state = drawn(isField ? drawn(state) : state);
            long k = (state >> 17) % 4;
            long next = drawn(state) >> 17;
            long x = k == 0 ? next % 21 - 10 : 100 * (next % 20 + 1) + k - 2;
            object.start();
            due("seed " + seed + ": x of the first step", object.step(0, 0, 1) == x || object.step(1, 0, 1) == x, true);
        }
    }

    private void startTwice() {
        says("-1 when started already");
        BranchGoals object = written(3, ONE_IF, NO_LINES);
        object.start();
        long state = object.state();
        long population = populationHash(object);
        due("a second start", object.start(), -1);
        due("a third start", object.start(), -1);
        due("it draws nothing", object.state(), state);
        due("it runs nothing", object.runs(), 2);
        due("the population stays", populationHash(object), population);
    }

    // ---- promises 4 and 5 ----

    private void watchedBeforeTheStart() {
        says("watched: false before the start");
        BranchGoals object = written(0, ONE_IF, NO_LINES);
        due("method 0", object.watched(0), false);
        due("method 1", object.watched(1), false);
        object.start();
        due("method 0 after it", object.watched(0), true);
        due("method 1 after it, without lines", object.watched(1), true);
    }

    private void watchedOfNoMethod() {
        says("watched: false when m is not 0 or 1");
        BranchGoals object = started(ONE_IF, ONE_IF);
        for (int m : NO_METHODS) {
            due("method " + m, object.watched(m), false);
        }
    }

    private void dependsBeforeTheStart() {
        says("depends: false before the start");
        BranchGoals object = written(0, CHAIN, NO_LINES);
        due("before", object.depends(2, 1), false);
        object.start();
        due("after", object.depends(2, 1), true);
    }

    private void dependsOfNoGoal() {
        says("depends: false when one of them is no goal");
        BranchGoals object = started(CHAIN, NO_LINES);
        for (int none : new int[] {-1, -2, 6, 7, 24, 32, 33, 64, 65, MIN, MAX}) {
            for (int g = 0; g < 6; g++) {
                due("depends(" + g + ", " + none + ")", object.depends(g, none), false);
                due("depends(" + none + ", " + g + ")", object.depends(none, g), false);
            }
        }
        due("the last goal", object.depends(5, 3), true);
        due("without goals", started(NO_LINES, NO_LINES).depends(0, 0), false);
    }

    // ---- promise 6 ----

    private void putBeforeTheStart() {
        says("Appends a step to the case that is being written (also before the start)");
        BranchGoals object = written(0, ONE_IF, NO_LINES);
        due("before", object.put(0, 5, 5, -1), true);
        object.start();
        due("after", object.put(0, 5, 6, -1), true);
        due("both are one case", object.run(), 3);
        due("of two steps", object.length(-1), 2);
    }

    private void putBehindSix() {
        says("put: false when that has six steps");
        BranchGoals object = started(NO_LINES, NO_LINES);
        for (int j = 0; j < 6; j++) {
            due("step " + j, object.put(j % 2 == 0 ? 0 : 7, j, 0, -1), true);
        }
        for (int kind : new int[] {0, 1, 4, 7}) {
            due("a seventh of kind " + kind, object.put(kind, 9, 9, -1), false);
        }
        object.run();
        due("six were run", object.length(-1), 6);
        dueStep("the sixth", object, -1, 5, 7, 5, 0, -1);
        due("there is room again", object.put(0, 1, 1, -1), true);
    }

    private void putNoKind() {
        says("kind is not 0, 1, 4 .. 7");
        BranchGoals object = started(NO_LINES, NO_LINES);
        for (int kind : new int[] {-1, 2, 3, 8, 9, MIN, MAX}) {
            due("kind " + kind, object.put(kind, 0, 0, -1), false);
        }
        due("nothing was written", object.run(), -1);
        for (int kind : new int[] {0, 1, 4, 5, 6, 7}) {
            due("kind " + kind, object.put(kind, 0, 0, -1), true);
        }
    }

    private void putNoRef() {
        says("or kind is 0 or 1 and ref is not from -1 to the number of its steps - 1");
        for (int kind = 0; kind < 2; kind++) {
            for (int steps = 0; steps < 6; steps++) {
                for (int ref : new int[] {MIN, -2, -1, 0, steps - 1, steps, steps + 1, MAX}) {
                    BranchGoals object = new BranchGoals(0);
                    for (int j = 0; j < steps; j++) {
                        object.put(j % 2 * 4, 0, 0, -1);
                    }
                    due("ref " + ref + " behind " + steps, object.put(kind, 0, 0, ref), ref >= -1 && ref <= steps - 1);
                }
            }
        }
    }

    private void putNotLookedAt() {
        says("With kind 0 or 1 and a ref that is not -1 y is not looked at, with kind 4 .. 7 neither y nor ref.");
        BranchGoals object = started(new int[][] {{RETURN, 1, 0, 0}}, NO_LINES);
        for (int wild : new int[] {1, -1, 99, MIN, MAX}) {
            object.put(0, 3, 44, -1);
            due("a call with y " + wild, object.put(0, 4, wild, 0), true);
            due("a field with y and ref " + wild, object.put(5, 6, wild, wild), true);
            object.run();
            dueStep("a call without ref", object, -1, 0, 0, 3, 44, -1);
            dueStep("a call with ref", object, -1, 1, 0, 4, 0, 0);
            dueStep("a field", object, -1, 2, 5, 6, 0, -1);
            due("the value is given", object.result(-1, 1), 44);
        }
    }

    // ---- promise 7 ----

    private void runThenNothingIsWritten() {
        says("Runs the written case and archives it; then no step is written.");
        BranchGoals object = startedQuietly(ONE_IF, NO_LINES);
        due("run", runCall(object, 0, 5, 5), 2);
        due("archived", caseHash(object, 101), caseHash(object, -1));
        due("run again", object.run(), -1);
        due("a ref to a step that was run", object.put(0, 1, 1, 0), false);
        object.put(0, 5, 6, -1);
        due("only the new step is run", object.run(), 1);
    }

    private void runTellsSets() {
        says("Answers the set of goals that it covers (2 to the power g for each, added)");
        BranchGoals object = started(SIX_BRANCHES, SIX_BRANCHES);
        due("none", runCall(object, 4, 5, 5), 0);
        due("the first goals", runCall(object, 0, 0, 5), 2);
        due("the last goal", runCall(object, 1, 5, 6) >> 12, 1 << 0 | 1 << 2 | 1 << 4 | 1 << 6 | 1 << 8 | 1 << 11);
        int all = runSteps(object, new int[] {0, 3, 5, -1}, new int[] {1, 3, 5, -1}, new int[] {1, 3, 1, -1});
        due("of both methods", all, 0x955 | 0xD55 << 12);
    }

    private void runBeforeTheStart() {
        says("-1 before the start (what is written stays)");
        BranchGoals object = written(0, ONE_IF, NO_LINES);
        object.put(0, 5, 5, -1);
        due("before", object.run(), -1);
        object.put(0, 5, 6, -1);
        due("before, again", object.run(), -1);
        due("no run", object.runs(), 0);
        dueNoCase("no latest", object, -1);
        object.start();
        due("after it", object.run(), 3);
        due("both steps stayed", object.length(-1), 2);
    }

    private void runOfNothing() {
        says("or when no step is written");
        BranchGoals object = started(ONE_IF, NO_LINES);
        due("nothing was ever written", object.run(), -1);
        dueNoCase("no latest", object, -1);
        runCall(object, 0, 5, 5);
        long latest = caseHash(object, -1);
        int runs = object.runs();
        due("nothing is written now", object.run(), -1);
        due("the latest one stays", caseHash(object, -1), latest);
        due("no run", object.runs(), runs);
    }

    private void runLeavesThePopulation() {
        says("run: The population stays.");
        BranchGoals object = started(CHAIN, NO_LINES);
        object.evolve();
        long population = populationHash(object);
        runCall(object, 0, 5, 5);
        runCall(object, 0, 0, 0);
        due("the population", populationHash(object), population);
    }

    // ---- promise 8 ----

    private void evolveBeforeTheStart() {
        says("evolve: -1 before the start");
        BranchGoals object = written(4, ONE_IF, NO_LINES);
        long state = object.state();
        due("before", object.evolve(), -1);
        due("it draws nothing", object.state(), state);
        due("it runs nothing", object.runs(), 0);
        dueNoCase("no population", object, 0);
    }

    private void evolveTellsFound() {
        says("evolve: Answers how many goals are found");
        BranchGoals none = started(NO_LINES, NO_LINES);
        due("without goals", none.evolve(), 0);
        BranchGoals object = startedQuietly(ONE_IF, ONE_IF);
        runSteps(object, new int[] {0, 1, 1, -1}, new int[] {0, 1, 2, -1}, new int[] {1, 1, 1, -1}, new int[] {1, 1, 2, -1});
        due("all of them", object.evolve(), 4);
        due("still all of them", object.evolve(), 4);
    }

    private void evolveToFive() {
        says("and the first five are the population");
        for (int seed = 0; seed < 20; seed++) {
            BranchGoals object = written(seed, CHAIN, NO_LINES);
            object.start();
            for (int size : new int[] {4, 5, 5, 5}) {
                object.evolve();
                due("how many there are", object.length(size - 1) > 0, true);
                dueNoCase("no more", object, size, size + 1, 6);
            }
        }
    }

    // ---- promise 9 ----

    private void finishBeforeTheStart() {
        says("finish: -1 before the start");
        BranchGoals object = written(0, ONE_IF, NO_LINES);
        object.put(0, 5, 5, -1);
        due("before", object.finish(), -1);
        dueNoCase("no suite", object, 200);
    }

    private void finishWithNothingFound() {
        says("it is empty at first");
        BranchGoals object = startedQuietly(ONE_IF, NO_LINES);
        due("nothing found", object.finish(), 0);
        dueNoCase("an empty suite", object, 200, 201);
        due("an empty suite reports none", object.reported(), 0);
        due("without goals", started(NO_LINES, NO_LINES).finish(), 0);
    }

    private void finishAnew() {
        says("Makes a new suite");
        BranchGoals object = startedQuietly(ONE_IF, ONE_IF);
        runCall(object, 1, 5, 5);
        due("the first suite", object.finish(), 1);
        due("its case", object.covers(200), 8);
        runCall(object, 0, 5, 5);
        due("run does not change the suite", object.reported(), 8);
        object.evolve();
        dueNoCase("nor does evolve", object, 201);
        runCall(object, 0, 5, 6);
        runCall(object, 1, 5, 6);
        due("the second suite", object.finish(), 4);
        for (int k = 0; k < 4; k++) {
            due("its case " + k, object.covers(200 + k), 1 << k);
        }
        due("the third is the same", object.finish(), 4);
        dueNoCase("no fifth", object, 204);
    }

    private void finishOfWhatIsCoveredSoFar() {
        says("for each found goal g in rising order that no case of the suite covers so far");
        BranchGoals object = startedQuietly(COUNT_UP, NO_LINES);
        runCall(object, 0, 2, 0);
        due("one case for two goals", object.finish(), 1);
        due("no trial of one step", object.runs(), 3);
        BranchGoals other = startedQuietly(ONE_IF, NO_LINES);
        runSteps(other, new int[] {0, 5, 5, -1}, new int[] {0, 5, 6, -1});
        due("what was cut away is covered by a case of its own", other.finish(), 2);
        due("the first is for goal 0", other.covers(200), 1);
        due("the second is for goal 1", other.covers(201), 2);
    }

    /** Case A covers goals 0, 1, case B 0, 2, case C 1, 2, 3, and no step of them can be left out. */
    private void finishDropsFromTheFirst() {
        says("Then each case of it, from the first on, is taken out if each goal that it covers is covered by another one that is"
                + " still in it.");
        BranchGoals object = startedQuietly(GROW_BOTH, GROW_ONE);
        due("case A", runSteps(object, new int[] {0, 0, 1, -1}, new int[] {0, 0, 0, -1}), 1 | 2);
        due("case B", runSteps(object, new int[] {0, 7, 1, -1}, new int[] {1, 0, 0, -1}), 1 | 4);
        due("case C", runSteps(object, new int[] {0, 0, 1, -1}, new int[] {1, 9, 1, -1}, new int[] {1, 2, 0, -1}), 2 | 4 | 8);
        due("A is archived for goal 0", object.covers(100), 1 | 2);
        due("two are left", object.finish(), 2);
        due("B stays, since A is out", object.covers(200), 1 | 4);
        due("C stays", object.covers(201), 2 | 4 | 8);
        dueNoCase("no third", object, 202);
        due("all are reported", object.reported(), 15);
    }

    /** Case A covers goals 0, 1, case B 0, 2, case C 2, 3, and no step of them can be left out. */
    private void finishDropsForAKeptOne() {
        says("is taken out if each goal that it covers is covered by another one (before it and behind it)");
        BranchGoals object = startedQuietly(GROW_BOTH, GROW_ONE);
        due("case A", runSteps(object, new int[] {0, 0, 1, -1}, new int[] {0, 0, 0, -1}), 1 | 2);
        due("case B", runSteps(object, new int[] {0, 7, 1, -1}, new int[] {1, 0, 0, -1}), 1 | 4);
        due("case C", runSteps(object, new int[] {1, 9, 1, -1}, new int[] {1, 1, 0, -1}), 4 | 8);
        due("two are left", object.finish(), 2);
        due("A stays", object.covers(200), 1 | 2);
        due("C stays", object.covers(201), 4 | 8);
    }

    private void finishKeepsTheOrder() {
        says("The others keep their order.");
        BranchGoals object = startedQuietly(COUNT_UP, SIX_BRANCHES);
        runCall(object, 0, 0, 0);
        runCall(object, 0, 2, 0);
        runCall(object, 1, 5, 5);
        runSteps(object, new int[] {4, 6, 0, -1}, new int[] {1, 6, 0, -1});
        runSteps(object, new int[] {7, 8, 0, -1}, new int[] {1, 8, 0, -1});
        due("four are left of five", object.finish(), 4);
        // The case of goal 1 makes that of goal 0 needless; then come those of goals 2, 3 and 9.
        int[] want = {2, 5, 6, 8};
        for (int k = 0; k < 4; k++) {
            due("x of the first step of number " + k, object.step(200 + k, 0, 1), want[k]);
        }
    }

    private void cutDownToOneStep() {
        says("for each of its steps from the last to the first: if another step is left");
        BranchGoals object = startedQuietly(ONE_IF, NO_LINES);
        runSteps(object, new int[] {0, 5, 5, -1}, new int[] {0, 6, 6, -1}, new int[] {0, 7, 7, -1});
        object.finish();
        due("one step is left", object.length(200), 1);
        dueStep("the first", object, 200, 0, 0, 5, 5, -1);
        due("two trials, none for the one that is left", object.runs(), 2 + 1 + 2);
    }

    private void cutNotWhatIsReferredTo() {
        says("and no step that is left refers to this one");
        BranchGoals object = startedQuietly(ONE_IF, new int[][] {{SET, 2, 0, 9}, {RETURN, 2, 0, 0}});
        runSteps(object, new int[] {1, 2, 3, -1}, new int[] {4, 1, 0, -1}, new int[] {0, 9, 0, 0});
        object.finish();
        due("two steps are left", object.length(200), 2);
        dueStep("what is referred to", object, 200, 0, 1, 2, 3, -1);
        dueStep("what refers", object, 200, 1, 0, 9, 0, 0);
        due("two trials, none for what is referred to", object.runs(), 2 + 1 + 2);
        BranchGoals freed = startedQuietly(ONE_IF, NO_LINES);
        runSteps(freed, new int[] {0, 5, 5, -1}, new int[] {1, 0, 0, -1}, new int[] {1, 0, 0, 1});
        freed.finish();
        due("what a step referred to that is taken out goes too", freed.length(200), 1);
        due("two trials", freed.runs(), 2 + 1 + 2);
    }

    private void cutForItsGoal() {
        says("if it covers g, the step is taken out");
        BranchGoals object = startedQuietly(ONE_IF, ONE_IF);
        runSteps(object, new int[] {1, 5, 5, -1}, new int[] {0, 5, 5, -1}, new int[] {1, 5, 6, -1});
        due("one case for each goal", object.finish(), 3);
        due("cut for goal 1", object.covers(200), 2);
        due("cut for goal 2", object.covers(201), 4);
        due("cut for goal 3", object.covers(202), 8);
        due("its result is its own", object.result(202, 0), 5);
        due("its fitness is its own", object.fitness(202, 1), FAR);
    }

    // ---- promises 10 to 12 ----

    private void foundBeforeTheStart() {
        says("found: 0 before the start");
        BranchGoals object = written(0, ONE_IF, NO_LINES);
        object.put(0, 5, 5, -1);
        object.run();
        due("before", object.found(), 0);
        object.start();
        object.run();
        due("after", object.found() >> 1 & 1, 1);
    }

    private void activeBeforeTheStart() {
        says("active: 0 before the start");
        BranchGoals object = written(0, ONE_IF, ONE_IF);
        due("before", object.active(), 0);
        object.start();
        due("after", object.active() | object.found(), 15);
        due("without goals", started(NO_LINES, NO_LINES).active(), 0);
    }

    private void reportedWithoutSuite() {
        says("reported: 0 when there is no suite yet");
        BranchGoals object = written(0, ONE_IF, NO_LINES);
        due("before the start", object.reported(), 0);
        object.start();
        runCall(object, 0, 5, 5);
        object.evolve();
        due("before finish", object.reported(), 0);
        object.finish();
        due("after it", object.reported(), object.found());
    }

    // ---- promises 13 to 17 ----

    private void noPopulation() {
        says("WHICH names a case: 0 .. 4 that place of the population");
        BranchGoals object = written(1, ONE_IF, NO_LINES);
        dueNoCase("before the start", object, 0, 1, 2, 3, 4);
        object.start();
        dueNoCase("after the start", object, 2, 3, 4, 5);
        object.evolve();
        dueNoCase("after one evolve", object, 4, 5);
        object.evolve();
        due("five", object.length(4) > 0, true);
        dueNoCase("after two", object, 5, 6, 7, 8, 50, 99, -2, -3, -100, -200, MIN, MIN + 1, MAX, MAX - 1);
    }

    private void noLatest() {
        says("WHICH names a case: -1 the latest one that run() ran");
        BranchGoals object = written(1, ONE_IF, NO_LINES);
        object.put(0, 5, 5, -1);
        dueNoCase("written, not run", object, -1);
        object.start();
        object.evolve();
        dueNoCase("only start and evolve ran", object, -1);
        object.run();
        dueStep("run", object, -1, 0, 0, 5, 5, -1);
        object.evolve();
        object.finish();
        dueStep("run, then others", object, -1, 0, 0, 5, 5, -1);
        object.put(0, 6, 6, -1);
        dueStep("the next one is written", object, -1, 0, 0, 5, 5, -1);
        object.run();
        dueStep("the next one is run", object, -1, 0, 0, 6, 6, -1);
    }

    private void noArchived() {
        says("WHICH names a case: 100 + g the archived one of goal g");
        BranchGoals object = startedQuietly(ONE_IF, NO_LINES);
        dueNoCase("none found", object, 100, 101);
        runCall(object, 0, 5, 5);
        dueStep("goal 1", object, 101, 0, 0, 5, 5, -1);
        dueNoCase("goal 0 and no goals", object, 100, 102, 103, 123, 124, 131, 132, 133, 150, 165, 199);
        BranchGoals most = started(SIX_BRANCHES, SIX_BRANCHES);
        runCall(most, 1, 5, 6);
        due("the last goal", most.covers(123) >> 23, 1);
        dueNoCase("behind the last goal", most, 124, 125);
    }

    private void noSuite() {
        says("WHICH names a case: 200 + k number k of the suite");
        BranchGoals object = startedQuietly(ONE_IF, NO_LINES);
        runCall(object, 0, 5, 5);
        dueNoCase("before finish", object, 200, 201);
        object.finish();
        dueStep("after it", object, 200, 0, 0, 5, 5, -1);
        dueNoCase("behind the last", object, 201, 202, 223, 224, 225, 300, 1000);
        BranchGoals shorter = startedQuietly(COUNT_UP, NO_LINES);
        runCall(shorter, 0, 0, 0);
        runSteps(shorter, new int[] {4, 0, 0, -1}, new int[] {0, 2, 0, -1});
        shorter.finish();
        runCall(shorter, 0, 2, 0);
        due("one is left of two", shorter.finish(), 1);
        dueNoCase("what was dropped", shorter, 201);
    }

    private static BranchGoals withTwoSteps() {
        BranchGoals object = startedQuietly(ONE_IF, NO_LINES);
        runSteps(object, new int[] {4, 6, 0, -1}, new int[] {0, 3, 3, -1});
        object.finish();
        return object;
    }

    private void noStep() {
        says("step: 0 when there is no such case, step or part (step)");
        BranchGoals object = withTwoSteps();
        for (int j : new int[] {-1, 2, 3, 5, 6, 7, 24, MIN, MAX}) {
            for (int part = 0; part < 4; part++) {
                due("step " + j + " of two", object.step(-1, j, part), 0);
            }
        }
        for (int j : new int[] {-1, 1, 5, 6, MIN, MAX}) {
            due("step " + j + " of one in the suite", object.step(200, j, 3), 0);
        }
        object.put(5, 1, 0, -1);
        object.run();
        due("a step of an earlier case", object.step(-1, 1, 1), 0);
    }

    private void noPart() {
        says("step: 0 when there is no such case, step or part (part)");
        BranchGoals object = started(ONE_IF, ONE_IF);
        runSteps(object, new int[] {4, 11, 0, -1}, new int[] {5, 12, 0, -1}, new int[] {6, 13, 0, -1}, new int[] {7, 14, 0, -1},
                new int[] {1, 15, 16, -1}, new int[] {1, 17, 0, 4});
        for (int j = 0; j < 6; j++) {
            for (int part : new int[] {-1, 4, 5, 8, -4, MIN, MAX}) {
                due("part " + part + " of step " + j, object.step(-1, j, part), 0);
            }
        }
        dueStep("the parts there are", object, -1, 5, 1, 17, 0, 4);
    }

    private void noGoal() {
        says("fitness: -1 when there is no such case or goal");
        BranchGoals object = withTwoSteps();
        for (int which : new int[] {-1, 0, 1, 101, 200}) {
            for (int g : new int[] {-1, 2, 3, 23, 24, 32, 64, MIN, MAX}) {
                due("fitness(" + which + ", " + g + ")", object.fitness(which, g), -1);
            }
            due("fitness(" + which + ", 1)", object.fitness(which, 1) >= 0, true);
        }
        BranchGoals without = started(NO_LINES, NO_LINES);
        due("without goals", without.fitness(0, 0), -1);
        BranchGoals most = started(SIX_BRANCHES, SIX_BRANCHES);
        due("the last goal", most.fitness(0, 23) >= 0, true);
        due("behind the last goal", most.fitness(0, 24), -1);
    }

    private void noResult() {
        says("result: 4294967296 + 4 when there is no such case or step");
        BranchGoals object = withTwoSteps();
        for (int j : new int[] {-1, 2, 3, 5, 6, MIN, MAX}) {
            due("step " + j + " of two", object.result(-1, j), 4294967300L);
        }
        due("step 1 of one in the suite", object.result(200, 1), 4294967300L);
        due("step 1 of two", object.result(-1, 1), 3);
    }

    // ---- promises 18 and 19 ----

    private void runsAreCounted() {
        says("How many runs there were: each by start, evolve and run(), and each trial of finish.");
        BranchGoals object = startedQuietly(ONE_IF, NO_LINES);
        due("start", object.runs(), 2);
        runSteps(object, new int[] {0, 5, 5, -1}, new int[] {4, 1, 1, -1});
        due("run", object.runs(), 3);
        object.finish();
        due("one trial", object.runs(), 4);
        object.finish();
        due("the same trial again", object.runs(), 5);
        object.evolve();
        due("evolve", object.runs(), 7);
    }

    private void askingIsNoRun() {
        says("(Asking is none.)");
        BranchGoals object = withTwoSteps();
        int runs = object.runs();
        for (int which : new int[] {-1, 0, 1, 101, 200}) {
            caseHash(object, which);
        }
        object.found();
        object.active();
        object.reported();
        object.depends(0, 1);
        object.watched(0);
        object.state();
        due("after asking", object.runs(), runs);
        object.run();
        object.start();
        object.put(0, 1, 1, -1);
        due("after what is refused or only written", object.runs(), runs);
    }

    private void stateBetweenDraws() {
        says("Draws are made in the order in which they are told here, and only those.");
        BranchGoals object = written(6, ONE_IF, NO_LINES);
        long state = object.state();
        object.put(0, 5, 5, -1);
        due("line and put draw nothing", object.state(), state);
        object.start();
        state = object.state();
        due("start leaves 48 bits", state >= 0 && state <= MASK, true);
        object.run();
        object.finish();
        caseHash(object, 0);
        due("run, finish and asking draw nothing", object.state(), state);
        object.evolve();
        due("evolve draws", object.state() != state, true);
    }

    // ---- refused calls ----

    /** The same calls with and without refused ones between them. */
    private void refusedChangesNothing() {
        says("A call that is refused changes nothing.");
        for (int seed = 0; seed < 30; seed++) {
            for (int which : new int[] {-1, 0, 1, 2, 3, 4, 100, 101, 102, 103, 104, 105, 106, 107, 200, 201, 202, 203}) {
                due("seed " + seed + ": case " + which, caseHash(busy(seed, true), which), caseHash(busy(seed, false), which));
            }
            BranchGoals with = busy(seed, true);
            BranchGoals without = busy(seed, false);
            due("seed " + seed + ": state", with.state(), without.state());
            due("seed " + seed + ": runs", with.runs(), without.runs());
            due("seed " + seed + ": found", with.found(), without.found());
            due("seed " + seed + ": active", with.active(), without.active());
            due("seed " + seed + ": reported", with.reported(), without.reported());
            due("seed " + seed + ": what is written", with.run(), without.run());
        }
    }

    private BranchGoals busy(int seed, boolean withRefused) {
        BranchGoals object = new BranchGoals(seed);
        for (int[] line : CHAIN) {
            refused(object, withRefused, false);
            object.line(0, line[0], line[1], line[2], line[3]);
        }
        for (int[] line : ONE_IF) {
            object.line(1, line[0], line[1], line[2], line[3]);
        }
        object.put(0, 3, 3, -1);
        refused(object, withRefused, false);
        object.start();
        refused(object, withRefused, true);
        object.put(1, 4, 0, 0);
        refused(object, withRefused, true);
        object.run();
        refusedRun(object, withRefused);
        for (int n = 0; n < 4; n++) {
            object.evolve();
            refused(object, withRefused, true);
            refusedRun(object, withRefused);
        }
        object.finish();
        refused(object, withRefused, true);
        for (int j = 0; j < 6; j++) {
            object.put(0, j, 3, -1);
        }
        if (withRefused) {
            due("a seventh step", object.put(0, 3, 3, -1) || object.put(4, 3, 3, -1), false);
        }
        return object;
    }

    private void refused(BranchGoals object, boolean withRefused, boolean isStarted) {
        if (!withRefused) {
            return;
        }
        due("line", object.line(2, RETURN, 0, 0, 0) || object.line(0, ADD, 0, 8, 0) || object.line(1, GO, 0, 0, 11), false);
        due("put", object.put(3, 1, 1, -1) || object.put(0, 1, 1, 6) || object.put(1, 1, 1, -2), false);
        if (isStarted) {
            due("line after the start", object.line(0, RETURN, 0, 0, 0), false);
            due("start", object.start(), -1);
        } else {
            due("run, evolve, finish before the start", object.run() + object.evolve() + object.finish(), -3);
        }
    }

    private void refusedRun(BranchGoals object, boolean withRefused) {
        if (withRefused) {
            due("run of nothing", object.run(), -1);
        }
    }
}
