/** Each promise by itself: ordinary inputs, the edges that the document names, and wrong inputs. */
final class PromiseTest extends Bench {
    private PromiseTest() {
    }

    public static void main(String[] args) {
        PromiseTest test = new PromiseTest();
        test.newObject();
        test.lineParts();
        test.lineLimits();
        test.startAnswers();
        test.startDraws();
        test.watchedSizes();
        test.dependsInBranches();
        test.dependsInLoops();
        test.putLimits();
        test.putParts();
        test.runAnswers();
        test.runKeepsThePopulation();
        test.evolveGrows();
        test.evolveFinds();
        test.mostGoals();
        test.finishCuts();
        test.finishDrops();
        test.finishAnew();
        test.foundAndArchived();
        test.activeGoals();
        test.reportedGoals();
        test.whichNamesNoCase();
        test.stepParts();
        test.coversByDistance();
        test.fitnessDistances();
        test.fitnessLevels();
        test.resultsOfOps();
        test.resultsOfEnds();
        test.resultsOfTime();
        test.runsCounted();
        test.stateOfDraws();
        test.checks.end();
    }

    // ---- promise 1 ----

    private void newObject() {
        due("state of seed 0", new BranchGoals(0).state(), 25214903917L);
        due("state of seed 7", new BranchGoals(7).state(), 25214903917L ^ 7);
        due("state of seed -1", new BranchGoals(-1).state(), MASK - 25214903917L);
        due("state of the least seed", new BranchGoals(MIN).state(), (25214903917L ^ -2147483648L) & MASK);
        BranchGoals object = new BranchGoals(3);
        due("new: runs", object.runs(), 0);
        due("new: found", object.found(), 0);
        due("new: no population", object.length(0), 0);
        due("new: no latest", object.length(-1), 0);
        due("new: start without lines", object.start(), 0);
        due("new: no step written", object.run(), -1);
    }

    // ---- promise 2 ----

    private static boolean takes(int op, int a, int b, int c) {
        return new BranchGoals(0).line(0, op, a, b, c);
    }

    private void lineParts() {
        for (int op = 0; op <= 9; op++) {
            boolean namesA = op != GO && op != FAIL;
            boolean namesB = op >= ADD && op <= IFLT;
            for (int wrong : new int[] {-1, 8, MIN, MAX}) {
                due("op " + op + " with a " + wrong, takes(op, wrong, 0, 0), !namesA);
                due("op " + op + " with b " + wrong, takes(op, 0, wrong, 0), !namesB);
            }
            due("op " + op + " with 7, 7, 7", takes(op, 7, 7, 7), true);
            boolean anyC = op == SET || op == RETURN || op == FAIL;
            boolean lineC = op >= IFEQ && op <= GO;
            due("op " + op + " with c -1", takes(op, 0, 0, -1), anyC);
            due("op " + op + " with c 8", takes(op, 0, 0, 8), anyC || lineC);
            due("op " + op + " with c 10", takes(op, 0, 0, 10), anyC || lineC);
            due("op " + op + " with c 11", takes(op, 0, 0, 11), anyC);
        }
        due("op -1", takes(-1, 0, 0, 0), false);
        due("op 10", takes(10, 0, 0, 0), false);
    }

    private void lineLimits() {
        BranchGoals object = new BranchGoals(0);
        due("line of method -1", object.line(-1, SET, 0, 0, 0), false);
        due("line of method 2", object.line(2, SET, 0, 0, 0), false);
        for (int i = 0; i < 10; i++) {
            due("a refused line takes no room", object.line(0, SET, 9, 0, 0), false);
            due("line " + i, object.line(0, SET, 0, 0, i), true);
        }
        due("line 10", object.line(0, SET, 0, 0, 0), false);
        due("a line of the other method", object.line(1, SET, 0, 0, 0), true);
        object.start();
        due("a line after the start", object.line(1, SET, 0, 0, 0), false);
    }

    // ---- promise 3 ----

    private void startAnswers() {
        BranchGoals object = written(5, CHAIN, ONE_IF);
        due("start", object.start(), 8);
        due("runs of start", object.runs(), 2);
        due("start has two cases", object.length(1) > 0 && object.length(2) == 0, true);
        long state = object.state();
        due("second start", object.start(), -1);
        due("a refused start draws nothing", object.state(), state);
        due("a refused start runs nothing", object.runs(), 2);
        int[][] unwatched = new int[7][];
        java.util.Arrays.fill(unwatched, new int[] {IFEQ, 0, 1, 3});
        due("goals of method 1 alone", written(5, unwatched, ONE_IF).start(), 2);
    }

    /** Draws the first case of start by hand, in methods without SET, and looks for it in the population. */
    private void startDraws() {
        for (int seed = 0; seed < 200; seed++) {
            BranchGoals object = new BranchGoals(seed);
            long state = drawn(object.state());
            long steps = 1 + (state >> 17) % 2;
            long k = ((state = drawn(state)) >> 17) % 5;
            long kind = k < 4 ? k / 2 : 4 + ((state = drawn(state)) >> 17) % 4;
            state = drawn(state);
            long x = ((state = drawn(state)) >> 17) % 21 - 10;
            object.start();
            boolean isThere = false;
            for (int which = 0; which < 2; which++) {
                isThere |= object.length(which) == steps && object.step(which, 0, 0) == kind
                        && object.step(which, 0, 1) == x;
            }
            due("seed " + seed + ": the first case is in the population", isThere, true);
            due("seed " + seed + ": the shorter is first", object.length(0) <= object.length(1), true);
        }
    }

    // ---- promise 4 ----

    private static BranchGoals withBranches(int lines, int branches) {
        BranchGoals object = new BranchGoals(0);
        for (int i = 0; i < lines; i++) {
            object.line(1, i < branches ? i % 2 + IFEQ : ADD, 0, 0, 0);
        }
        return object;
    }

    private void watchedSizes() {
        int[][] sizes = {{0, 0, 1}, {10, 0, 1}, {10, 5, 1}, {10, 6, 0}, {9, 5, 1}, {9, 6, 0}, {8, 6, 1}, {8, 7, 0},
            {7, 6, 1}, {7, 7, 0}, {6, 6, 1}};
        for (int[] size : sizes) {
            BranchGoals object = withBranches(size[0], size[1]);
            due("watched before the start", object.watched(1), false);
            due("goals of " + size[0] + " lines, " + size[1] + " branches", object.start(), 2 * size[1] * size[2]);
            due("watched with " + size[0] + " lines, " + size[1] + " branches", object.watched(1), size[2] == 1);
            due("method 0 without lines is watched", object.watched(0), true);
            due("method -1 is not watched", object.watched(-1), false);
            due("method 2 is not watched", object.watched(2), false);
        }
    }

    // ---- promise 5 ----

    /** Asks all pairs; want holds for each branch the set of goals on which it depends. */
    private void dueDependence(String what, BranchGoals object, int... want) {
        for (int g = 0; g < 2 * want.length; g++) {
            for (int h = 0; h < 2 * want.length; h++) {
                due(what + ": depends(" + g + ", " + h + ")", object.depends(g, h), (want[g / 2] >> h & 1) == 1);
            }
        }
    }

    private void dependsInBranches() {
        due("depends before the start", written(0, CHAIN, NO_LINES).depends(2, 1), false);
        BranchGoals chain = started(CHAIN, ONE_IF);
        dueDependence("chain and another method", chain, 0, 1 << 1, 1 << 3, 0);
        due("depends on goal -1", chain.depends(2, -1), false);
        due("goal -1 depends", chain.depends(-1, 1), false);
        due("depends on goal 8", chain.depends(2, 8), false);
        due("goal 8 depends", chain.depends(8, 1), false);
        dueDependence("two ways", started(TWO_WAYS, NO_LINES), 0, 1, 1 << 1 | 1 << 3);
        int[][] joined = {{IFEQ, 0, 1, 2}, {SET, 2, 0, 5}, {IFLT, 0, 1, 3}};
        dueDependence("what comes in any case", started(joined, NO_LINES), 0, 0);
        int[][] toNext = {{IFEQ, 0, 1, 1}, {IFEQ, 0, 1, 10}};
        dueDependence("both outcomes lead to the next line", started(toNext, NO_LINES), 0, 0);
    }

    private void dependsInLoops() {
        int[][] doWhile = {{IFLT, 0, 1, 0}};
        dueDependence("a line that may go on at itself", started(doWhile, NO_LINES), 1 << 1);
        dueDependence("a loop", started(COUNT_UP, NO_LINES), 1 << 1);
        int[][] endless = {{IFEQ, 0, 1, 0}, {GO, 0, 0, 0}};
        dueDependence("no way to END", started(endless, NO_LINES), 0);
        int[][] halfEndless = {{IFEQ, 0, 1, 3}, {IFLT, 0, 1, 3}, {GO, 0, 0, 2}, {RETURN, 0, 0, 0}};
        dueDependence("ways that do not come to END do not count", started(halfEndless, NO_LINES), 0, 1);
        int[][] loopWithIf = {{IFLT, 2, 0, 2}, {FAIL, 0, 0, 0}, {IFEQ, 2, 1, 4}, {ADD, 2, 2, 2}, {GO, 0, 0, 0}};
        dueDependence("an if within a loop", started(loopWithIf, NO_LINES), 1 << 1, 1 << 1);
    }

    // ---- promise 6 ----

    private void putLimits() {
        BranchGoals object = new BranchGoals(0);
        for (int kind : new int[] {-1, 2, 3, 8, MIN, MAX}) {
            due("put kind " + kind, object.put(kind, 0, 0, -1), false);
        }
        due("put with a ref to itself", object.put(0, 1, 1, 0), false);
        due("put with ref -2", object.put(0, 1, 1, -2), false);
        due("put a field with any ref", object.put(7, 1, 1, 99), true);
        due("put with a ref to the first", object.put(1, 1, 1, 0), true);
        due("put with a ref to itself", object.put(1, 1, 1, 2), false);
        for (int i = 2; i < 6; i++) {
            due("put step " + i, object.put(0, i, 0, i - 1), true);
        }
        due("put a seventh call", object.put(0, 0, 0, -1), false);
        due("put a seventh field", object.put(4, 0, 0, -1), false);
        object.start();
        object.run();
        due("six steps were written before the start", object.length(-1), 6);
        due("put after the start", object.put(0, 0, 0, -1), true);
    }

    private void putParts() {
        BranchGoals object = started(NO_LINES, NO_LINES);
        object.put(0, 11, 12, -1);
        object.put(1, 21, 22, 0);
        object.put(6, 31, 32, 1);
        object.run();
        int[][] want = {{0, 11, 12, -1}, {1, 21, 0, 0}, {6, 31, 0, -1}};
        for (int j = 0; j < want.length; j++) {
            for (int part = 0; part < 4; part++) {
                due("put: step " + j + " part " + part, object.step(-1, j, part), want[j][part]);
            }
        }
    }

    // ---- promise 7 ----

    private void runAnswers() {
        BranchGoals object = written(1, ONE_IF, ONE_IF);
        object.put(0, 4, 4, -1);
        due("run before the start", object.run(), -1);
        due("run before the start counts none", object.runs(), 0);
        object.start();
        due("what was written stayed", object.run(), 1 << 1);
        due("nothing is written any more", object.run(), -1);
        due("the latest one stays", object.covers(-1), 1 << 1);
        object.put(1, 4, 4, -1);
        object.put(1, 4, 5, -1);
        due("two outcomes", object.run(), 1 << 2 | 1 << 3);
        due("a case that covers none", runCall(object, 5, 1, 1), 0);
        due("the latest one is that", object.step(-1, 0, 0), 5);
    }

    private void runKeepsThePopulation() {
        BranchGoals object = started(CHAIN, NO_LINES);
        object.evolve();
        long before = populationPrint(object);
        long state = object.state();
        runCall(object, 0, 4, 4);
        due("run: the population stays", populationPrint(object), before);
        due("run: draws nothing", object.state(), state);
    }

    private static long populationPrint(BranchGoals object) {
        long print = 0;
        for (int which = 0; which < 5; which++) {
            print = print * 31 + object.length(which);
            for (int j = 0; j < object.length(which); j++) {
                for (int part = 0; part < 4; part++) {
                    print = print * 31 + object.step(which, j, part);
                }
            }
        }
        return print;
    }

    // ---- promise 8 ----

    private void evolveGrows() {
        BranchGoals object = written(9, CHAIN, COUNT_UP);
        due("evolve before the start", object.evolve(), -1);
        object.start();
        int[] sizes = {4, 5, 5, 5};
        for (int n = 0; n < sizes.length; n++) {
            due("evolve answers the found", object.evolve(), Integer.bitCount(object.found()));
            due("evolve " + n + " leaves so many", object.length(sizes[n] - 1) > 0, true);
            due("evolve " + n + " leaves no more", object.length(sizes[n]), 0);
            due("evolve " + n + " runs two", object.runs(), 4 + 2 * n);
        }
    }

    private void evolveFinds() {
        BranchGoals object = written(3, CHAIN, COUNT_UP);
        object.start();
        int found = 0;
        for (int n = 0; n < 400; n++) {
            int now = object.evolve();
            due("evolve: what was found stays", now >= found, true);
            found = now;
        }
        due("evolve finds all", object.found(), 255);
        for (int which = 0; which < 5; which++) {
            due("evolve: at most six steps", object.length(which) >= 1 && object.length(which) <= 6, true);
            due("evolve: with none active the shorter is first",
                    which == 0 || object.length(which - 1) <= object.length(which), true);
            for (int j = 0; j < object.length(which); j++) {
                int ref = object.step(which, j, 3);
                due("evolve: a ref is earlier", ref >= -1 && ref < j, true);
                due("evolve: a step with a ref has y 0", ref == -1 || object.step(which, j, 2) == 0, true);
            }
        }
    }

    /** Six branches in each method, each a call apart: v0 equals exactly one of the fields or none. */
    private void mostGoals() {
        int[][] six = {{IFEQ, 0, 4, 8}, {IFEQ, 0, 5, 8}, {IFEQ, 0, 6, 8}, {IFEQ, 0, 7, 8}, {IFEQ, 0, 1, 8},
            {IFLT, 0, 1, 8}, {ADD, 4, 4, 0}, {RETURN, 0, 0, 0}};
        BranchGoals object = written(2, six, six);
        due("most goals: start", object.start(), 24);
        for (int kind = 0; kind < 2; kind++) {
            for (int field = 4; field < 8; field++) {
                object.put(field, 9, 0, -1);
                runCall(object, kind, 9, 0);
            }
            runCall(object, kind, 9, 9);
            runCall(object, kind, 9, 10);
            runCall(object, kind, 9, 8);
        }
        due("most goals: all found", object.found(), (1 << 24) - 1);
        due("most goals: none active", object.active(), 0);
        due("most goals: evolve", object.evolve(), 24);
        due("most goals: the last goal's case covers it", object.covers(123) >> 23, 1);
        due("most goals: the last goal's fitness", object.fitness(123, 23), 0);
        due("most goals: no further goal", object.fitness(123, 24), -1);
        due("most goals: no further archived", object.length(124), 0);
        due("most goals: a suite", object.finish() >= 14, true);
        due("most goals: all reported", object.reported(), (1 << 24) - 1);
    }

    // ---- promise 9 ----

    private void finishCuts() {
        due("finish before the start", written(0, ONE_IF, NO_LINES).finish(), -1);
        BranchGoals object = startedQuietly(ONE_IF, new int[][] {{SET, 2, 0, 9}, {RETURN, 2, 0, 0}});
        due("finish with nothing found", object.finish(), 0);
        object.put(4, 1, 0, -1);
        object.put(1, 2, 3, -1);
        object.put(5, 1, 0, -1);
        object.put(0, 9, 0, 1);
        object.put(1, 2, 0, 3);
        due("cutting: the whole case", object.run(), 1 << 1);
        due("cutting: one case", object.finish(), 1);
        due("cutting: two steps left", object.length(200), 2);
        due("cutting: the first is what is referred to", object.step(200, 0, 0), 1);
        due("cutting: the second is the call", object.step(200, 1, 1), 9);
        due("cutting: the ref followed", object.step(200, 1, 3), 0);
        due("cutting: the result of the first", object.result(200, 0), 9);
        due("cutting: what is left covers", object.covers(200), 1 << 1);
        due("cutting: four trials, none for what is referred to", object.runs(), 2 + 1 + 4);
        due("cutting: the archived one stays whole", object.length(101), 5);
        due("cutting: trials are not archived", object.found(), 1 << 1);
    }

    private void finishDrops() {
        BranchGoals object = startedQuietly(COUNT_UP, ONE_IF);
        runCall(object, 0, 0, 0);
        runCall(object, 0, 2, 0);
        runCall(object, 1, 5, 5);
        due("dropping: the archived one of goal 0", object.covers(100), 1);
        due("dropping: the archived one of goal 1", object.covers(101), 3);
        due("dropping: two are left of three", object.finish(), 2);
        due("dropping: the first is that of goal 1", object.step(200, 0, 1), 2);
        due("dropping: the second keeps its order", object.step(201, 0, 0), 1);
        due("dropping: no third", object.length(202), 0);
        due("dropping: all stay covered", object.reported(), 1 | 2 | 8);
        BranchGoals other = startedQuietly(COUNT_UP, NO_LINES);
        runCall(other, 0, 2, 0);
        due("a goal that is covered so far gets none of its own", other.finish(), 1);
    }

    private void finishAnew() {
        BranchGoals object = startedQuietly(ONE_IF, ONE_IF);
        runCall(object, 0, 5, 5);
        object.finish();
        runCall(object, 1, 5, 6);
        due("the suite stays until the next finish", object.length(201), 0);
        due("a new suite", object.finish(), 2);
        due("a new suite: its first", object.covers(200), 1 << 1);
        due("a new suite: its second", object.covers(201), 1 << 2);
        due("the same again", object.finish(), 2);
    }

    // ---- promise 10 ----

    private void foundAndArchived() {
        due("found before the start", written(0, ONE_IF, NO_LINES).found(), 0);
        BranchGoals object = startedQuietly(ONE_IF, NO_LINES);
        object.put(4, 1, 0, -1);
        object.put(0, 5, 5, -1);
        object.run();
        due("found by run", object.found(), 1 << 1);
        due("archived", object.length(101), 2);
        object.put(5, 1, 0, -1);
        object.put(0, 6, 6, -1);
        object.run();
        due("one of as many steps is not archived", object.step(101, 1, 1), 5);
        runCall(object, 0, 7, 7);
        due("a shorter one is archived", object.step(101, 0, 1), 7);
        due("the other goal has none", object.length(100), 0);
    }

    // ---- promise 11 ----

    private void activeGoals() {
        due("active before the start", written(0, ONE_IF, NO_LINES).active(), 0);
        BranchGoals chain = startedQuietly(CHAIN, ONE_IF);
        due("active: at the entries", chain.active(), 3 | 3 << 6);
        runCall(chain, 0, 5, 5);
        due("active: behind what was found", chain.active(), 1 | 1 << 3 | 3 << 6);
        runCall(chain, 0, 0, 0);
        due("active: behind that", chain.active(), 1 | 1 << 5 | 3 << 6);
        BranchGoals twoWays = startedQuietly(TWO_WAYS, NO_LINES);
        runCall(twoWays, 0, 5, 6);
        due("active: behind the other outcome", twoWays.active(), 1 << 1 | 1 << 3);
        BranchGoals doWhile = startedQuietly(new int[][] {{IFLT, 0, 1, 0}}, NO_LINES);
        due("active: depends on itself, post-dominates line 0", doWhile.active(), 3);
        int[][] dead = {{RETURN, 0, 0, 0}, {IFLT, 0, 1, 1}};
        due("active: depends on itself, not on the way", started(dead, NO_LINES).active(), 0);
        int[][] deadOnce = {{RETURN, 0, 0, 0}, {IFLT, 0, 1, 3}};
        due("active: depends on nothing", started(deadOnce, NO_LINES).active(), 3);
    }

    // ---- promise 12 ----

    private void reportedGoals() {
        BranchGoals object = startedQuietly(ONE_IF, NO_LINES);
        runCall(object, 0, 5, 5);
        due("reported without a suite", object.reported(), 0);
        object.finish();
        due("reported", object.reported(), 1 << 1);
        runCall(object, 0, 5, 6);
        due("reported until the next finish", object.reported(), 1 << 1);
        object.finish();
        due("reported after it", object.reported(), 3);
    }

    // ---- promises 13 to 17: which names no case ----

    private void whichNamesNoCase() {
        BranchGoals fresh = written(1, ONE_IF, NO_LINES);
        fresh.put(0, 1, 1, -1);
        dueNoCase(fresh, -1, 0, 1, 100, 101, 200);
        fresh.start();
        dueNoCase(fresh, -1, 2, 3, 4, 200);
        BranchGoals object = startedQuietly(ONE_IF, NO_LINES);
        runCall(object, 0, 3, 3);
        object.finish();
        object.evolve();
        object.evolve();
        dueNoCase(object, MIN, -101, -100, -2, 5, 6, 7, 99, 102, 123, 124, 199, 224, 1000, MAX);
        for (int which : new int[] {-1, 0, 4, 101, 200}) {
            due("length(" + which + ") of a case", object.length(which) > 0, true);
            due("result(" + which + ", -1)", object.result(which, -1), BASE + 4);
            due("result(" + which + ") behind the last", object.result(which, object.length(which)), BASE + 4);
            due("fitness(" + which + ", -1)", object.fitness(which, -1), -1);
            due("fitness(" + which + ", 2)", object.fitness(which, 2), -1);
        }
    }

    private void dueNoCase(BranchGoals object, int... whiches) {
        for (int which : whiches) {
            due("length(" + which + ")", object.length(which), 0);
            due("step(" + which + ", 0, 3)", object.step(which, 0, 3), 0);
            due("covers(" + which + ")", object.covers(which), 0);
            due("fitness(" + which + ", 0)", object.fitness(which, 0), -1);
            due("result(" + which + ", 0)", object.result(which, 0), BASE + 4);
        }
    }

    // ---- promise 14 ----

    private void stepParts() {
        BranchGoals object = startedQuietly(ONE_IF, NO_LINES);
        object.put(4, 6, 0, -1);
        object.put(0, 3, 0, 0);
        object.put(0, 3, 3, -1);
        object.run();
        due("step: kind", object.step(-1, 0, 0), 4);
        due("step: x", object.step(-1, 1, 1), 3);
        due("step: y", object.step(-1, 2, 2), 3);
        due("step: ref", object.step(-1, 1, 3), 0);
        due("step: of the archived", object.step(101, 2, 2), 3);
        for (int[] none : new int[][] {{-1, 3}, {3, 0}, {3, 3}, {6, 0}, {MAX, 0}, {MIN, 0}, {0, -1}, {0, 4}, {2, MAX}}) {
            due("step(-1, " + none[0] + ", " + none[1] + ")", object.step(-1, none[0], none[1]), 0);
        }
    }

    // ---- promise 15 ----

    private void coversByDistance() {
        BranchGoals object = started(ONE_IF, new int[][] {{IFLT, 0, 1, 1}});
        int[][] calls = {{0, 1, 1, 2}, {0, 1, 2, 1}, {1, 1, 2, 8}, {1, 2, 2, 4}, {1, 3, 2, 4}, {0, MIN, MAX, 1},
            {1, MIN, MAX, 8}, {1, MAX, MIN, 4}};
        for (int[] call : calls) {
            runCall(object, call[0], call[1], call[2]);
            due("covers of a call " + call[0] + " with " + call[1] + ", " + call[2], object.covers(-1), call[3]);
        }
        int archived = object.covers(100) & object.covers(102) | object.covers(101) & object.covers(103);
        due("covers of the archived", archived, 0);
        due("covers of the archived has its goal", object.covers(102) >> 2 & 1, 1);
    }

    // ---- promise 16 ----

    private void dueFitness(BranchGoals object, long... want) {
        for (int g = 0; g < want.length; g++) {
            due("fitness for goal " + g, object.fitness(-1, g), want[g]);
        }
    }

    private void fitnessDistances() {
        BranchGoals object = started(ONE_IF, new int[][] {{IFLT, 0, 1, 1}});
        long far = 64 * LEVEL;
        int[][] calls = {{0, 3, 7}, {0, 7, 3}, {0, 5, 5}, {0, MIN, MAX}, {1, 3, 7}, {1, 7, 3}, {1, 5, 5}, {1, MIN, MAX},
            {1, MAX, MIN}};
        long[][] want = {{0, 4, far, far}, {0, 4, far, far}, {1, 0, far, far}, {0, BASE - 1, far, far},
            {far, far, 4, 0}, {far, far, 0, 5}, {far, far, 0, 1}, {far, far, BASE - 1, 0}, {far, far, 0, BASE}};
        for (int n = 0; n < calls.length; n++) {
            runCall(object, calls[n][0], calls[n][1], calls[n][2]);
            dueFitness(object, want[n]);
        }
        object.put(0, 3, 9, -1);
        object.put(0, 3, 5, -1);
        object.put(0, 3, 7, -1);
        object.run();
        dueFitness(object, 0, 2, far, far);
    }

    private void fitnessLevels() {
        BranchGoals chain = started(CHAIN, NO_LINES);
        runCall(chain, 0, 5, 8);
        dueFitness(chain, 0, 3, LEVEL + 3, LEVEL + 3, 2 * LEVEL + 3, 2 * LEVEL + 3);
        runCall(chain, 0, 5, 5);
        dueFitness(chain, 1, 0, 0, 5, LEVEL + 5, LEVEL + 5);
        runCall(chain, 6, 5, 5);
        dueFitness(chain, 64 * LEVEL, 64 * LEVEL, 64 * LEVEL, 64 * LEVEL, 64 * LEVEL, 64 * LEVEL);
        due("fitness for no goal", chain.fitness(-1, 6), -1);
        BranchGoals twoWays = started(TWO_WAYS, NO_LINES);
        runCall(twoWays, 0, 5, 8);
        dueFitness(twoWays, 0, 3, 0, 5, LEVEL + 3, LEVEL + 3);
        twoWays.put(4, 6, 0, -1);
        twoWays.put(0, 5, 8, -1);
        twoWays.run();
        dueFitness(twoWays, 0, 3, 0, 1, LEVEL + 1, LEVEL + 1);
    }

    // ---- promise 17 ----

    private void dueResult(int[][] lines, int x, int y, long want) {
        BranchGoals object = started(lines, NO_LINES);
        runCall(object, 0, x, y);
        due("op " + lines[0][0] + " with " + x + ", " + y, object.result(-1, 0), want);
    }

    private void resultsOfOps() {
        int[] back = {RETURN, 2, 0, 0};
        dueResult(new int[][] {{SET, 2, 0, MIN}, back}, 1, 2, MIN);
        dueResult(new int[][] {{ADD, 2, 0, 1}, back}, MAX, 1, MIN);
        dueResult(new int[][] {{SUB, 2, 0, 1}, back}, 3, 5, -2);
        dueResult(new int[][] {{SUB, 2, 0, 1}, back}, MIN, 1, MAX);
        dueResult(new int[][] {{MUL, 2, 0, 1}, back}, 65536, 65536, 0);
        dueResult(new int[][] {{MUL, 2, 0, 1}, back}, -3, 7, -21);
        dueResult(new int[][] {{DIV, 2, 0, 1}, back}, -7, 2, -3);
        dueResult(new int[][] {{DIV, 2, 0, 1}, back}, MIN, -1, MIN);
        dueResult(new int[][] {{DIV, 2, 0, 1}, back}, 7, 0, BASE + 1);
        int[] other = {RETURN, 1, 0, 0};
        dueResult(new int[][] {{IFEQ, 0, 1, 2}, other, {FAIL, 0, 0, 0}}, 4, 5, 5);
        dueResult(new int[][] {{IFEQ, 0, 1, 2}, other, {FAIL, 0, 0, 0}}, 5, 5, BASE + 2);
        dueResult(new int[][] {{IFLT, 0, 1, 2}, other, {FAIL, 0, 0, 0}}, 5, 5, 5);
        dueResult(new int[][] {{IFLT, 0, 1, 2}, other, {FAIL, 0, 0, 0}}, MIN, MAX, BASE + 2);
        dueResult(new int[][] {{IFLT, 0, 1, 10}, other}, 1, 5, 0);
        dueResult(new int[][] {{GO, 0, 0, 2}, other, {FAIL, 0, 0, 0}}, 4, 5, BASE + 2);
        dueResult(new int[][] {{GO, 0, 0, 10}, other}, 4, 5, 0);
    }

    private void resultsOfEnds() {
        int[][] keep = {{ADD, 4, 4, 0}, {DIV, 5, 0, 1}, {RETURN, 5, 0, 0}};
        int[][] tell = {{ADD, 2, 2, 3}, {ADD, 2, 2, 1}, {ADD, 2, 2, 4}, {ADD, 3, 2, 5}, {RETURN, 3, 0, 0}};
        BranchGoals object = started(keep, tell);
        object.put(5, 100, 0, -1);
        object.put(0, 3, 0, -1);
        object.put(1, 0, 1000, -1);
        object.put(1, 0, 0, 1);
        object.put(0, 8, 0, 2);
        object.put(1, 0, 0, 2);
        object.run();
        due("result of setting a field", object.result(-1, 0), 0);
        due("result by DIVISION", object.result(-1, 1), BASE + 1);
        due("fields stay after DIVISION, and the variable too", object.result(-1, 2), 1103);
        due("the value of a step that ended by DIVISION is 0", object.result(-1, 3), 103);
        due("a value is given for y", object.result(-1, 4), 0);
        due("v2 and v3 begin at 0, a value is given again", object.result(-1, 5), 1103 + 11);
        due("result behind the last", object.result(-1, 6), BASE + 4);
        object.put(0, 1, 1, -1);
        object.run();
        due("the fields are 0 when a run begins", object.result(-1, 0), 1);
        object.put(1, 0, 0, -1);
        object.run();
        due("the fields are 0 in the next run", object.result(-1, 0), 0);
        int[][] minus = {{SUB, 2, 3, 0}, {RETURN, 2, 0, 0}};
        BranchGoals negative = started(minus, minus);
        runCall(negative, 0, 1, 0);
        due("a negative result", negative.result(-1, 0), -1);
    }

    /** The loop does two lines for each of x; what stands before and behind it makes up 40. */
    private void resultsOfTime() {
        int[][] toEnd = {{SUB, 0, 0, 1}, {IFLT, 2, 0, 0}};
        dueResult(toEnd, 20, 1, 0);
        dueResult(toEnd, 21, 1, BASE + 3);
        int[][] toReturn = {{GO, 0, 0, 1}, {SUB, 0, 0, 1}, {IFLT, 2, 0, 1}, {RETURN, 1, 0, 0}};
        dueResult(toReturn, 19, 1, 1);
        dueResult(toReturn, 20, 1, BASE + 3);
        int[][] lateReturn = {{SUB, 0, 0, 1}, {IFLT, 2, 0, 0}, {RETURN, 1, 0, 0}};
        dueResult(lateReturn, 20, 1, BASE + 3);
        BranchGoals object = started(toEnd, ONE_IF);
        object.put(0, 100, 1, -1);
        object.put(1, 5, 5, -1);
        object.put(4, 5, 0, -1);
        due("after a TIME no step is done", object.run(), 1 << 1);
        due("result by TIME", object.result(-1, 0), BASE + 3);
        due("result of a call not done", object.result(-1, 1), BASE);
        due("result of a field not set", object.result(-1, 2), BASE);
        due("fitness of what was not done", object.fitness(-1, 3), 64 * LEVEL);
    }

    // ---- promise 18 ----

    private void runsCounted() {
        BranchGoals object = startedQuietly(ONE_IF, NO_LINES);
        due("runs after start", object.runs(), 2);
        object.put(0, 1, 1, -1);
        due("runs after put", object.runs(), 2);
        object.run();
        due("runs after run", object.runs(), 3);
        object.run();
        due("runs after a refused run", object.runs(), 3);
        object.evolve();
        due("runs after evolve", object.runs(), 5);
        object.covers(-1);
        object.fitness(0, 0);
        object.result(101, 0);
        object.length(200);
        due("asking is no run", object.runs(), 5);
        BranchGoals single = startedQuietly(ONE_IF, NO_LINES);
        runCall(single, 0, 5, 5);
        single.finish();
        due("a case of one step needs no trial", single.runs(), 3);
        BranchGoals pair = startedQuietly(ONE_IF, NO_LINES);
        pair.put(0, 5, 5, -1);
        pair.put(4, 1, 1, -1);
        pair.run();
        pair.finish();
        due("the last step that is left needs no trial", pair.runs(), 4);
    }

    // ---- promise 19 ----

    private void stateOfDraws() {
        BranchGoals object = written(0, ONE_IF, NO_LINES);
        object.put(0, 1, 2, -1);
        due("state before the start", object.state(), 25214903917L);
        object.start();
        long state = object.state();
        due("state has 48 bits", state >= 0 && state <= MASK, true);
        object.run();
        object.finish();
        object.covers(0);
        due("state stays without draws", object.state(), state);
        object.evolve();
        int draws = 0;
        long here = state;
        for (; draws < 40 && here != object.state(); draws++) {
            here = drawn(here);
        }
        // Six for the parents and the cuts, then one to eight for each child.
        due("evolve draws from 8 to 22 times", draws >= 8 && draws <= 22, true);
    }
}
