/** The sentences under "Terms", up to the archive, that name an edge: each has a test of its own. */
final class TermsTest extends Bench {
    /** Does 2x lines for x > 0 and y = 1 and is then at line 2. */
    private static final int[][] LOOP = {{SUB, 0, 0, 1}, {IFLT, 2, 0, 0}};
    /** Does 2x + 1 lines for x > 0 and y = 1 and is then at line 3. */
    private static final int[][] ODD_LOOP = {{GO, 0, 0, 1}, {SUB, 0, 0, 1}, {IFLT, 2, 0, 1}};
    /** Goal 3 leads past a division that goal 1 leads to as well; behind it are branches 2 and 3 in a row. */
    private static final int[][] BEHIND_DIVISION = {
        {IFEQ, 0, 1, 3}, {IFEQ, 0, 4, 3}, {RETURN, 0, 0, 0}, {DIV, 2, 0, 5}, {IFLT, 0, 6, 6}, {RETURN, 0, 0, 0},
        {IFEQ, 0, 7, 7}};
    /** Each outcome of branch 0 leads to a division and a branch behind it; from both of them branch 3 is reached. */
    private static final int[][] TWO_DIVISIONS = {
        {IFEQ, 0, 1, 4}, {DIV, 2, 0, 5}, {IFEQ, 0, 6, 7}, {RETURN, 0, 0, 0}, {DIV, 2, 0, 5}, {IFLT, 0, 6, 7},
        {RETURN, 0, 0, 0}, {IFEQ, 0, 7, 8}};

    private TermsTest() {
    }

    public static void main(String[] args) {
        TermsTest test = new TermsTest();
        test.tenLines();
        test.variablesWhenACallBegins();
        test.wrapping();
        test.divisionAsInJava();
        test.divisionByZero();
        test.equalOrNot();
        test.lessOrNot();
        test.unnamedNumbers();
        test.noLine();
        test.noLines();
        test.fortyLines();
        test.branchAsFortiethLine();
        test.outcomeOneToTheNextLine();
        test.outcomeOneToItself();
        test.watchedUpToTwenty();
        test.unwatchedHasNoGoals();
        test.numberedByMethodAndLine();
        test.edgesToEnd();
        test.edgesToTheNextLine();
        test.wayToEnd();
        test.wayBackThroughAllLines();
        test.placesOfAWay();
        test.dependsOnItself();
        test.dependsNotOnWhatItPostDominates();
        test.dependsWithinItsMethod();
        test.oneToSixSteps();
        test.valueInsteadOfY();
        test.fieldSteps();
        test.fieldsAreZero();
        test.resultOfEachEnd();
        test.resultsThatAreInts();
        test.afterTime();
        test.valueOfEachEnd();
        test.distancesOfIfeq();
        test.distancesOfIflt();
        test.nearestOfARun();
        test.coversOnlyWhatWasDone();
        test.levelZero();
        test.leastLevel();
        test.longestRow();
        test.leastDistanceOfALevel();
        test.levelSixtyFour();
        test.archivedFirst();
        test.archivedShorter();
        test.archivedByStartAndEvolve();
        test.trialsAreNotArchived();
        test.foundIsNotActive();
        test.activeByDependingOnNone();
        test.activeByPostDominatingLineZero();
        test.activeByAFoundGoal();
        test.checks.end();
    }

    private static int[][] with(int[][] lines, int[]... more) {
        int[][] all = java.util.Arrays.copyOf(lines, lines.length + more.length);
        System.arraycopy(more, 0, all, lines.length, more.length);
        return all;
    }

    private static int[][] repeated(int times, int[] line, int[]... more) {
        int[][] lines = new int[times][];
        java.util.Arrays.fill(lines, line);
        return with(lines, more);
    }

    private static long resultOf(int[][] lines, int x, int y) {
        BranchGoals object = started(lines, NO_LINES);
        runCall(object, 0, x, y);
        return object.result(-1, 0);
    }

    private void dueResult(String what, int[][] lines, int x, int y, long want) {
        due(what + " with " + x + ", " + y, resultOf(lines, x, y), want);
    }

    private void dueCovered(String what, int[][] lines, int x, int y, int want) {
        due(what + " with " + x + ", " + y, runCall(started(lines, NO_LINES), 0, x, y), want);
    }

    /** Asks all pairs; want holds for each branch the set of goals on which it depends. */
    private void dueDependence(String what, BranchGoals object, int... want) {
        for (int g = 0; g < 2 * want.length; g++) {
            for (int h = 0; h < 2 * want.length; h++) {
                due(what + ": depends(" + g + ", " + h + ")", object.depends(g, h), (want[g / 2] >> h & 1) == 1);
            }
        }
    }

    private void dueFitness(String what, BranchGoals object, long... want) {
        for (int g = 0; g < want.length; g++) {
            due(what + ": fitness for goal " + g, object.fitness(-1, g), want[g]);
        }
    }

    // ---- lines and calls ----

    private void tenLines() {
        says("METHODS 0 and 1 have LINES 0, 1, .., at most 10 each");
        int[] more = {ADD, 4, 4, 0};
        int[] tell = {RETURN, 4, 0, 0};
        BranchGoals object = started(repeated(9, more, tell), repeated(10, more, tell));
        runSteps(object, new int[] {0, 5, 0, -1}, new int[] {1, 5, 0, -1}, new int[] {0, 0, 0, -1});
        due("a tenth line is done", object.result(-1, 0), 45);
        due("an eleventh is not there", object.result(-1, 1), 0);
        due("but ten are", object.result(-1, 2), 45 + 50);
    }

    private void variablesWhenACallBegins() {
        says("v0, v1 are what a call is given, v2, v3 are 0 when a call begins, v4 .. v7 are the FIELDS, which stay");
        int[] want = {3, 4, 0, 0, 94, 95, 96, 97};
        int[][] setAll = new int[8][];
        for (int v = 0; v < 8; v++) {
            setAll[v] = new int[] {SET, v, 0, 90 + v};
        }
        for (int v = 0; v < 8; v++) {
            BranchGoals object = started(setAll, new int[][] {{RETURN, v, 0, 0}});
            runSteps(object, new int[] {0, 1, 2, -1}, new int[] {1, 3, 4, -1});
            due("v" + v + " in the next call", object.result(-1, 1), want[v]);
        }
    }

    private void wrapping() {
        says("ADD va = vb + vc, SUB va = vb - vc, MUL va = vb * vc (these three wrap)");
        int[] back = {RETURN, 2, 0, 0};
        int[][] add = {{ADD, 2, 0, 1}, back};
        dueResult("ADD", add, MAX, 1, MIN);
        dueResult("ADD", add, MIN, -1, MAX);
        dueResult("ADD", add, MIN, MIN, 0);
        int[][] sub = {{SUB, 2, 0, 1}, back};
        dueResult("SUB", sub, MIN, 1, MAX);
        dueResult("SUB", sub, MAX, -1, MIN);
        dueResult("SUB", sub, 0, MIN, MIN);
        int[][] mul = {{MUL, 2, 0, 1}, back};
        dueResult("MUL", mul, 65536, 65536, 0);
        dueResult("MUL", mul, 65536, 32768, MIN);
        dueResult("MUL", mul, MAX, MAX, 1);
        dueResult("MUL", mul, MIN, -1, MIN);
    }

    private void divisionAsInJava() {
        says("DIV va = vb / vc as in Java");
        int[][] div = {{DIV, 2, 0, 1}, {RETURN, 2, 0, 0}};
        int[][] rows = {{7, 2, 3}, {-7, 2, -3}, {7, -2, -3}, {-7, -2, 3}, {1, 2, 0}, {-1, 2, 0}, {0, 5, 0},
            {MIN, -1, MIN}, {MIN, 1, MIN}, {MAX, -1, -MAX}, {MIN, MIN, 1}, {MAX, MIN, 0}};
        for (int[] row : rows) {
            dueResult("DIV", div, row[0], row[1], row[2]);
        }
    }

    private void divisionByZero() {
        says("is vc 0, the call ends by DIVISION, and va stays");
        int[][] div = {{DIV, 5, 0, 1}, {SET, 5, 0, 1}, {RETURN, 5, 0, 0}};
        BranchGoals object = started(div, new int[][] {{RETURN, 5, 0, 0}});
        runSteps(object, new int[] {5, 77, 0, -1}, new int[] {0, 9, 0, -1}, new int[] {1, 0, 0, -1});
        due("the call ends", object.result(-1, 1), BASE + 1);
        due("va stays", object.result(-1, 2), 77);
        runCall(object, 0, 0, 0);
        due("0 / 0", object.result(-1, 0), BASE + 1);
        runCall(object, 0, MIN, 0);
        due("the least / 0", object.result(-1, 0), BASE + 1);
        dueResult("va is vc", new int[][] {{DIV, 1, 0, 1}, {RETURN, 1, 0, 0}}, 6, 0, BASE + 1);
    }

    private void equalOrNot() {
        says("IFEQ: on at line c if va = vb");
        int[][] lines = {{IFEQ, 0, 1, 2}, {FAIL, 0, 0, 0}, {RETURN, 0, 0, 0}};
        int[][] same = {{0, 0}, {-1, -1}, {MIN, MIN}, {MAX, MAX}};
        for (int[] row : same) {
            dueResult("IFEQ", lines, row[0], row[1], row[0]);
        }
        int[][] other = {{0, 1}, {0, -1}, {MIN, MAX}, {MAX, MIN}, {0, MIN}, {-1, 1}};
        for (int[] row : other) {
            dueResult("IFEQ", lines, row[0], row[1], BASE + 2);
        }
    }

    private void lessOrNot() {
        says("IFLT: on at line c if va < vb");
        int[][] lines = {{IFLT, 0, 1, 2}, {FAIL, 0, 0, 0}, {RETURN, 0, 0, 0}};
        int[][] less = {{0, 1}, {-1, 0}, {MIN, MAX}, {MIN, 0}, {-2, MAX}, {MIN, 1}};
        for (int[] row : less) {
            dueResult("IFLT", lines, row[0], row[1], row[0]);
        }
        int[][] notLess = {{0, 0}, {1, 0}, {0, -1}, {MAX, MIN}, {0, MIN}, {MAX, -2}, {MIN, MIN}, {MAX, MAX}};
        for (int[] row : notLess) {
            dueResult("IFLT", lines, row[0], row[1], BASE + 2);
        }
    }

    private void unnamedNumbers() {
        says("Numbers that an op does not name are not looked at.");
        for (int wild : new int[] {-1, 8, 11, MIN, MAX}) {
            BranchGoals object = new BranchGoals(1);
            due("SET with b " + wild, object.line(0, SET, 2, wild, 42), true);
            due("GO with a, b " + wild, object.line(0, GO, wild, wild, 3), true);
            due("FAIL with a, b, c " + wild, object.line(0, FAIL, wild, wild, wild), true);
            due("RETURN with b, c " + wild, object.line(0, RETURN, 2, wild, wild), true);
            object.line(1, FAIL, wild, wild, wild);
            object.start();
            runSteps(object, new int[] {0, 1, 1, -1}, new int[] {1, 1, 1, -1});
            due("they work all the same", object.result(-1, 0), 42);
            due("FAIL works all the same", object.result(-1, 1), BASE + 2);
        }
    }

    private void noLine() {
        says("Where there is no line, there is END: a call that gets there ends with the value 0");
        dueResult("behind the last line", new int[][] {{ADD, 0, 0, 1}}, 3, 4, 0);
        int[] back = {RETURN, 0, 0, 0};
        for (int c : new int[] {2, 3, 10}) {
            dueResult("GO " + c + " of two lines", new int[][] {{GO, 0, 0, c}, back}, 3, 4, 0);
            dueResult("IFEQ to " + c + " of two lines", new int[][] {{IFEQ, 0, 0, c}, back}, 3, 4, 0);
            dueResult("IFLT to " + c + " of two lines", new int[][] {{IFLT, 0, 1, c}, back}, 3, 4, 0);
        }
        dueResult("GO 1 of two lines", new int[][] {{GO, 0, 0, 1}, back}, 3, 4, 3);
        dueResult("GO 9 of ten lines", with(new int[][] {{GO, 0, 0, 9}}, repeated(8, new int[] {FAIL, 0, 0, 0}, back)), 3, 4, 3);
        dueResult("GO 10 of ten lines", with(new int[][] {{GO, 0, 0, 10}}, repeated(9, back)), 3, 4, 0);
        dueResult("a branch in the last line goes on", new int[][] {{IFEQ, 0, 1, 0}}, 3, 4, 0);
    }

    private void noLines() {
        says("(in a method without lines at once)");
        BranchGoals object = started(NO_LINES, NO_LINES);
        runSteps(object, new int[] {0, 3, 4, -1}, new int[] {1, 3, 0, 0});
        due("method 0", object.result(-1, 0), 0);
        due("method 1", object.result(-1, 1), 0);
    }

    private void fortyLines() {
        says("A call that has done 40 lines and has not ended then ends by TIME.");
        dueResult("the 40th line leads to END", LOOP, 20, 1, 0);
        dueResult("the 41st line would lead to END", ODD_LOOP, 20, 1, BASE + 3);
        int[][] last = {{RETURN, 1, 0, 0}, {FAIL, 0, 0, 0}, {DIV, 2, 0, 3}, {GO, 0, 0, 10}, {ADD, 2, 2, 2}};
        long[] ends = {1, BASE + 2, BASE + 1, 0, 0};
        for (int n = 0; n < last.length; n++) {
            dueResult("the 40th line is op " + last[n][0], with(ODD_LOOP, last[n]), 19, 1, ends[n]);
            dueResult("the 39th line is op " + last[n][0], with(LOOP, last[n]), 19, 1, ends[n]);
            dueResult("the 41st line would be op " + last[n][0], with(LOOP, last[n]), 20, 1, BASE + 3);
        }
        dueResult("no line ever ends it", new int[][] {{GO, 0, 0, 0}}, 0, 0, BASE + 3);
        BranchGoals twice = started(with(LOOP, new int[] {RETURN, 1, 0, 0}), NO_LINES);
        runSteps(twice, new int[] {0, 15, 1, -1}, new int[] {0, 15, 1, -1});
        due("each call has its own 40", twice.result(-1, 1), 1);
    }

    private void branchAsFortiethLine() {
        says("A call that has done 40 lines and has not ended then ends by TIME.");
        int[] equal = {IFEQ, 4, 0, 10};
        dueCovered("the 40th line is a branch", with(ODD_LOOP, equal), 19, 1, 1 | 2 | 8);
        dueCovered("the 41st line would be a branch", with(LOOP, equal), 20, 1, 1 | 2);
    }

    private void outcomeOneToTheNextLine() {
        says("1 (it goes on at line c, also where that is the next line)");
        for (int op : new int[] {IFEQ, IFLT}) {
            int[][] lines = {{op, 0, 1, 1}, {RETURN, 0, 0, 0}};
            boolean isEqual = op == IFEQ;
            dueCovered("op " + op, lines, 5, 5, isEqual ? 2 : 1);
            dueCovered("op " + op, lines, 5, 6, isEqual ? 1 : 2);
            dueResult("op " + op, lines, 5, 5, 5);
        }
    }

    private void outcomeOneToItself() {
        says("1 (it goes on at line c)");
        int[][] lines = {{IFEQ, 0, 1, 0}, {RETURN, 0, 0, 0}};
        dueResult("its own line", lines, 5, 5, BASE + 3);
        dueCovered("its own line", lines, 5, 5, 2);
        dueResult("its own line", lines, 5, 6, 5);
    }

    private void watchedUpToTwenty() {
        says("A method is WATCHED if its number of lines and two for each of its branches are together at most 20.");
        int[] branch = {IFLT, 0, 1, 10};
        int[] other = {ADD, 4, 4, 0};
        for (int lines = 0; lines <= 10; lines++) {
            for (int branches = 0; branches <= lines; branches++) {
                int[][] method = repeated(branches, branch, repeated(lines - branches, other));
                boolean want = lines + 2 * branches <= 20;
                String what = lines + " lines, " + branches + " branches";
                due(what + " in method 0", started(method, NO_LINES).watched(0), want);
                due(what + " in method 1", started(NO_LINES, method).watched(1), want);
                due(what + ": goals", written(0, method, NO_LINES).start(), want ? 2 * branches : 0);
            }
        }
    }

    private void unwatchedHasNoGoals() {
        says("DISTANCES, whenever a branch of a watched method is done");
        int[][] unwatched = repeated(7, new int[] {IFEQ, 0, 1, 10}, new int[] {RETURN, 0, 0, 0});
        BranchGoals object = started(unwatched, ONE_IF);
        due("an unwatched method covers none", runCall(object, 0, 5, 5), 0);
        dueFitness("an unwatched method", object, FAR, FAR);
        runCall(object, 0, 5, 6);
        due("it works all the same", object.result(-1, 0), 5);
        due("the watched one covers", runCall(object, 1, 5, 5), 2);
    }

    private void numberedByMethodAndLine() {
        says("The branches of watched methods are numbered 0, 1, .., those of method 0 first, by their lines.");
        int[][] two = {{IFEQ, 0, 1, 1}, {IFLT, 0, 1, 2}};
        int[][] one = {{IFEQ, 0, 1, 1}};
        BranchGoals object = started(two, one);
        due("method 0", runCall(object, 0, 5, 5), 1 << 1 | 1 << 2);
        due("method 0", runCall(object, 0, 4, 5), 1 << 0 | 1 << 3);
        due("method 1", runCall(object, 1, 5, 5), 1 << 5);
        due("method 1", runCall(object, 1, 4, 5), 1 << 4);
        int[][] unwatched = repeated(7, new int[] {IFEQ, 0, 1, 10});
        due("method 1 behind an unwatched one", runCall(started(unwatched, one), 1, 5, 5), 1 << 1);
        due("method 0 before an unwatched one", runCall(started(two, unwatched), 0, 4, 5), 1 << 0 | 1 << 3);
    }

    // ---- ways and dependence ----

    private void edgesToEnd() {
        says("7 that to line c (END if there is none such), 8 and 9 that to END");
        int[][] ends = {{GO, 0, 0, 10}, {GO, 0, 0, 3}, {RETURN, 0, 0, 2}, {FAIL, 0, 0, 2}};
        for (int[] end : ends) {
            int[][] lines = {{IFEQ, 0, 1, 2}, end, {IFLT, 0, 1, 3}};
            dueDependence("past op " + end[0] + " with c " + end[3], started(lines, NO_LINES), 0, 1 << 1);
        }
        int[][] toLine = {{IFEQ, 0, 1, 2}, {GO, 0, 0, 2}, {IFLT, 0, 1, 3}};
        dueDependence("GO to a line", started(toLine, NO_LINES), 0, 0);
        int[][] outOfLines = {{IFEQ, 0, 1, 10}, {IFLT, 0, 1, 2}};
        dueDependence("an outcome that leads to END", started(outOfLines, NO_LINES), 0, 1 << 0);
    }

    private void edgesToTheNextLine() {
        says("all others that to the next line (or END)");
        for (int op = SET; op <= DIV; op++) {
            int[][] lines = {{IFEQ, 0, 1, 2}, {op, 2, 3, 3}, {IFLT, 0, 1, 10}, {op, 2, 3, 3}};
            dueDependence("op " + op, started(lines, NO_LINES), 0, 0);
        }
    }

    private void wayToEnd() {
        says("A line y POST-DOMINATES a place x if there is a way along edges from x to END, and every such way passes y");
        int[][] endless = {{IFEQ, 0, 1, 0}, {GO, 0, 0, 0}};
        dueDependence("no way to END", started(endless, NO_LINES), 0);
        int[][] halfEndless = {{IFEQ, 0, 1, 3}, {IFLT, 0, 1, 3}, {GO, 0, 0, 2}, {RETURN, 0, 0, 0}};
        dueDependence("a way that does not come to END does not count", started(halfEndless, NO_LINES), 0, 1);
        int[][] endlessOutcome = {{IFEQ, 0, 1, 2}, {GO, 0, 0, 1}, {IFLT, 0, 1, 3}};
        dueDependence("an outcome without a way", started(endlessOutcome, NO_LINES), 0, 0);
    }

    private void wayBackThroughAllLines() {
        says("if there is a way along edges from x to END, and every such way passes y");
        // The way from line 9 leads back through each line to the first; only from there is there one to END.
        for (int last = 2; last <= 9; last++) {
            int[][] lines = new int[last + 1][];
            lines[0] = new int[] {IFLT, 0, 1, 10};
            for (int i = 1; i < last; i++) {
                lines[i] = new int[] {GO, 0, 0, i - 1};
            }
            lines[last] = new int[] {IFEQ, 0, 1, last - 1};
            dueDependence("back from line " + last, started(lines, NO_LINES), 1 << 0 | 1 << 3, 0);
        }
    }

    private void placesOfAWay() {
        says("(x itself and END belong to a way)");
        dueDependence("x is y", started(new int[][] {{IFLT, 0, 1, 0}}, NO_LINES), 1 << 1);
        dueDependence("END is no line", started(new int[][] {{IFLT, 0, 1, 10}}, NO_LINES), 0);
        dueDependence("the outcome leads to p", started(ONE_IF, new int[][] {{IFEQ, 0, 1, 2}, {FAIL, 0, 0, 0}, {IFEQ, 0, 1, 3}}),
                0, 0, 1 << 3);
    }

    private void dependsOnItself() {
        says("p post-dominates the place to which that outcome leads, and p is q");
        dueDependence("a loop", started(COUNT_UP, NO_LINES), 1 << 1);
        dueDependence("a loop by outcome 0", started(new int[][] {{IFLT, 0, 1, 2}, {GO, 0, 0, 0}}, NO_LINES), 1 << 0);
        dueDependence("no loop", started(ONE_IF, NO_LINES), 0);
    }

    private void dependsNotOnWhatItPostDominates() {
        says("p post-dominates the place to which that outcome leads, and p is q or p does not post-dominate q");
        int[][] loopOfTwo = {{IFEQ, 0, 1, 1}, {IFLT, 0, 1, 0}};
        dueDependence("a loop of two branches", started(loopOfTwo, NO_LINES), 1 << 3, 1 << 3);
        int[][] joined = {{IFEQ, 0, 1, 2}, {SET, 2, 0, 5}, {IFLT, 0, 1, 3}};
        dueDependence("what comes in any case", started(joined, NO_LINES), 0, 0);
        dueDependence("a row of branches", started(CHAIN, NO_LINES), 0, 1 << 1, 1 << 3);
        dueDependence("two ways to a branch", started(TWO_WAYS, NO_LINES), 0, 1 << 0, 1 << 1 | 1 << 3);
    }

    private void dependsWithinItsMethod() {
        says("a branch q of the same method");
        dueDependence("twice the same method", started(CHAIN, CHAIN), 0, 1 << 1, 1 << 3, 0, 1 << 7, 1 << 9);
    }

    // ---- cases and their runs ----

    private void oneToSixSteps() {
        says("A CASE is a row of 1 to 6 STEPS");
        BranchGoals object = started(new int[][] {{ADD, 4, 4, 0}, {RETURN, 4, 0, 0}}, NO_LINES);
        for (int steps = 1; steps <= 6; steps++) {
            for (int j = 0; j < steps; j++) {
                object.put(0, 10, 0, -1);
            }
            object.run();
            due("how many steps", object.length(-1), steps);
            due("the last of " + steps, object.result(-1, steps - 1), 10 * steps);
        }
    }

    private void valueInsteadOfY() {
        says("a REF that is not -1 is the number of an earlier step of the case (from 0), and then the VALUE of that step"
                + " is given instead of y, and y is 0");
        BranchGoals object = started(new int[][] {{ADD, 2, 0, 1}, {RETURN, 2, 0, 0}}, NO_LINES);
        runSteps(object, new int[] {0, 1, 10, -1}, new int[] {0, 100, 5000, 0}, new int[] {0, 1000, 5000, 0},
                new int[] {0, 2, 5000, 2}, new int[] {0, 3, 5000, 3}, new int[] {0, 7, 5000, -1});
        long[] want = {11, 111, 1011, 1013, 1016, 5007};
        for (int j = 0; j < want.length; j++) {
            due("result of step " + j, object.result(-1, j), want[j]);
            due("y of step " + j, object.step(-1, j, 2), j == 0 ? 10 : j == 5 ? 5000 : 0);
        }
    }

    private void fieldSteps() {
        says("Kind 4 .. 7 sets that field to x; its y is 0, its REF -1.");
        for (int field = 4; field <= 7; field++) {
            for (int x : new int[] {7, -1, MIN, MAX}) {
                BranchGoals object = started(new int[][] {{RETURN, field, 0, 0}}, NO_LINES);
                runSteps(object, new int[] {0, 0, 0, -1}, new int[] {field, x, 33, 0}, new int[] {0, 0, 0, -1});
                due("field " + field + " set to " + x, object.result(-1, 2), x);
                due("its y", object.step(-1, 1, 2), 0);
                due("its REF", object.step(-1, 1, 3), -1);
            }
        }
    }

    private void fieldsAreZero() {
        says("To RUN a case: the fields are 0");
        for (int field = 4; field <= 7; field++) {
            BranchGoals object = started(new int[][] {{SET, field, 0, 9}}, new int[][] {{RETURN, field, 0, 0}});
            runCall(object, 1, 0, 0);
            due("field " + field + " in the first run", object.result(-1, 0), 0);
            runSteps(object, new int[] {0, 0, 0, -1}, new int[] {1, 0, 0, -1});
            due("field " + field + " within a run", object.result(-1, 1), 9);
            runCall(object, 1, 0, 0);
            due("field " + field + " in the next run", object.result(-1, 0), 0);
        }
    }

    private void resultOfEachEnd() {
        says("or 4294967296 + 1 if it ended by DIVISION, + 2 by FAIL, + 3 by TIME");
        dueResult("DIVISION", new int[][] {{DIV, 2, 2, 2}}, 1, 1, 4294967297L);
        dueResult("FAIL", new int[][] {{FAIL, 2, 2, 2}}, 1, 1, 4294967298L);
        dueResult("TIME", new int[][] {{GO, 0, 0, 0}}, 1, 1, 4294967299L);
        says("The RESULT of a step is the value with which its call ended (for kind 4 .. 7: 0)");
        BranchGoals object = started(NO_LINES, NO_LINES);
        runCall(object, 4, 12, 13);
        due("a field", object.result(-1, 0), 0);
    }

    private void resultsThatAreInts() {
        says("The RESULT of a step is the value with which its call ended");
        for (int x : new int[] {0, 1, -1, MIN, MAX}) {
            dueResult("RETURN", new int[][] {{RETURN, 0, 0, 0}}, x, 0, x);
        }
    }

    private void afterTime() {
        says("After a TIME no further step is done: results 4294967296.");
        BranchGoals object = started(new int[][] {{IFEQ, 0, 1, 0}}, ONE_IF);
        int covered = runSteps(object, new int[] {1, 1, 2, -1}, new int[] {0, 5, 5, -1}, new int[] {1, 5, 5, -1},
                new int[] {4, 5, 0, -1}, new int[] {0, 5, 5, -1}, new int[] {0, 5, 6, -1});
        due("goals covered before it and by it", covered, 1 << 1 | 1 << 2);
        long[] want = {1, BASE + 3, BASE, BASE, BASE, BASE};
        for (int j = 0; j < want.length; j++) {
            due("result of step " + j, object.result(-1, j), want[j]);
        }
        dueFitness("nearest before it and by it", object, 1, 0, 0, 1);
        runSteps(object, new int[] {0, 5, 5, -1}, new int[] {1, 5, 5, -1});
        dueFitness("a branch only behind it", object, 1, 0, FAR, FAR);
        int[][] ends = {{DIV, 2, 2, 2}, {FAIL, 0, 0, 0}};
        for (int[] end : ends) {
            BranchGoals other = started(new int[][] {end}, ONE_IF);
            due("op " + end[0] + " ends no run", runSteps(other, new int[] {0, 0, 0, -1}, new int[] {1, 5, 5, -1}), 2);
        }
    }

    private void valueOfEachEnd() {
        says("The VALUE of a step is its result if that is an int, else 0.");
        int[][] given = {{IFEQ, 1, 2, 3}, {IFLT, 1, 2, 4}, {DIV, 2, 0, 3}, {FAIL, 0, 0, 0}, {RETURN, 0, 0, 0}};
        int[][] back = {{RETURN, 1, 0, 0}};
        BranchGoals object = started(given, back);
        runSteps(object, new int[] {0, 9, 1, -1}, new int[] {1, 5, 5, 0});
        due("after DIVISION", object.result(-1, 0) == BASE + 1 && object.result(-1, 1) == 0, true);
        runSteps(object, new int[] {0, 9, 0, -1}, new int[] {1, 5, 5, 0});
        due("after FAIL", object.result(-1, 0) == BASE + 2 && object.result(-1, 1) == 0, true);
        for (int x : new int[] {0, 1, -1, MIN, MAX}) {
            runSteps(object, new int[] {0, x, -1, -1}, new int[] {1, 5, 5, 0});
            due("an int", object.result(-1, 1), x);
        }
        runSteps(object, new int[] {4, 8, 8, -1}, new int[] {1, 5, 5, 0});
        due("a field", object.result(-1, 1), 0);
    }

    // ---- distances and fitness ----

    private void dueDistances(int op, long[][] rows) {
        BranchGoals object = started(new int[][] {{op, 0, 1, 1}}, NO_LINES);
        for (long[] row : rows) {
            int covered = runCall(object, 0, (int) row[0], (int) row[1]);
            String what = "op " + op + " with " + row[0] + ", " + row[1];
            dueFitness(what, object, row[2], row[3]);
            due(what + ": covers", covered, (row[2] == 0 ? 1 : 0) + (row[3] == 0 ? 2 : 0));
        }
    }

    private void distancesOfIfeq() {
        says("for IFEQ outcome 1: the difference of A and B without sign; outcome 0: 0 if A is not B, else 1"
                + " (exact, not wrapping)");
        dueDistances(IFEQ, new long[][] {{5, 5, 1, 0}, {5, 6, 0, 1}, {6, 5, 0, 1}, {-3, 4, 0, 7}, {0, MIN, 0, 2147483648L},
            {MIN, 0, 0, 2147483648L}, {MIN, MAX, 0, 4294967295L}, {MAX, MIN, 0, 4294967295L}, {MIN, MIN, 1, 0},
            {MAX, -1, 0, 2147483648L}});
    }

    private void distancesOfIflt() {
        says("For IFLT outcome 1: 0 if A < B, else A - B + 1; outcome 0: 0 if A >= B, else B - A (exact, not wrapping)");
        dueDistances(IFLT, new long[][] {{5, 5, 0, 1}, {5, 6, 1, 0}, {6, 5, 0, 2}, {-3, 4, 7, 0}, {0, MIN, 0, 2147483649L},
            {MIN, 0, 2147483648L, 0}, {MIN, MAX, 4294967295L, 0}, {MAX, MIN, 0, 4294967296L}, {MIN, MIN, 0, 1},
            {MAX, -1, 0, 2147483649L}});
    }

    private void nearestOfARun() {
        says("The NEAREST distance of a goal is the least of a run.");
        BranchGoals object = started(ONE_IF, new int[][] {{IFEQ, 4, 1, 3}, {ADD, 4, 4, 0}, {IFLT, 4, 1, 0}});
        runSteps(object, new int[] {0, 3, 9, -1}, new int[] {0, 3, 5, -1}, new int[] {0, 3, 7, -1});
        dueFitness("the least in the middle of three steps", object, 0, 2);
        runSteps(object, new int[] {0, 3, 3, -1}, new int[] {0, 3, 5, -1});
        dueFitness("both outcomes", object, 0, 0);
        // v4 is 0, 4, 8 where line 0 is done, and 4, 8, 12 where line 2 is.
        runCall(object, 1, 4, 10);
        due("the least of several in one call, IFEQ", object.fitness(-1, 3), 2);
        due("the least of several in one call, IFLT", object.fitness(-1, 4), 0);
        runCall(object, 0, 3, 13);
        dueFitness("a new run begins anew", object, 0, 10, FAR, FAR, FAR, FAR);
    }

    private void coversOnlyWhatWasDone() {
        says("A case COVERS a goal if that is 0, the branch having been done.");
        BranchGoals object = started(CHAIN, ONE_IF);
        due("the first branch alone", runCall(object, 0, 5, 6), 1);
        due("no branch", runCall(object, 4, 5, 6), 0);
        due("covers() of no branch", object.covers(-1), 0);
        due("the other method", runCall(object, 1, 5, 6), 1 << 6);
        due("nearest 1 is not 0", runCall(object, 1, 5, 5), 1 << 7);
    }

    private void levelZero() {
        says("0 and the nearest distance of g, if its branch was done");
        BranchGoals object = started(CHAIN, NO_LINES);
        runCall(object, 0, 5, 5);
        due("depends on another and was done", object.fitness(-1, 3), 5);
        runCall(object, 0, MIN, MIN);
        due("the farthest", object.fitness(-1, 3), 2147483648L);
    }

    private void leastLevel() {
        says("Else the level is the least k >= 1 for which there are goals h1 .. hk");
        BranchGoals chain = started(CHAIN, NO_LINES);
        runCall(chain, 0, 5, 8);
        dueFitness("rows of 1 and 2", chain, 0, 3, LEVEL + 3, LEVEL + 3, 2 * LEVEL + 3, 2 * LEVEL + 3);
        runCall(chain, 0, MIN, MAX);
        dueFitness("the farthest", chain, 0, BASE - 1, LEVEL + BASE - 1, LEVEL + BASE - 1, 2 * LEVEL + BASE - 1,
                2 * LEVEL + BASE - 1);
        // Branch 0 ends the way to branch 1: of the goals on which branch 2 depends only goal 1 was measured.
        BranchGoals behind = started(BEHIND_DIVISION, NO_LINES);
        runCall(behind, 0, 5, 5);
        dueFitness("one of two rows", behind, 1, 0, LEVEL + 1, LEVEL + 1, LEVEL, LEVEL, 2 * LEVEL, 2 * LEVEL);
        // Two rows lead from branch 2: goal 1, and goal 3 behind goal 0; a longer one does not count though it is nearer.
        int[][] shortAndLong = {{IFLT, 0, 1, 4}, {DIV, 2, 0, 5}, {IFEQ, 0, 4, 4}, {RETURN, 0, 0, 0}, {IFEQ, 0, 6, 5}};
        BranchGoals both = started(shortAndLong, NO_LINES);
        runCall(both, 0, 8, 5);
        dueFitness("the least of two levels", both, 0, 4, LEVEL, LEVEL, LEVEL + 4, LEVEL + 4);
        BranchGoals later = started(new int[][] {{GO, 0, 0, 2}, {IFEQ, 0, 1, 3}, {IFLT, 0, 1, 1}}, NO_LINES);
        runCall(later, 0, 8, 5);
        dueFitness("the first branch depends on a later one", later, LEVEL + 4, LEVEL + 4, 0, 4);
    }

    private void longestRow() {
        says("g's branch depends on h1, the branch of h1 on h2, and so on, and the branch of hk was done");
        // A watched method has at most six branches, so no row is longer than five.
        int[][] six = repeated(6, new int[] {IFEQ, 0, 1, 10});
        BranchGoals object = started(six, six);
        runCall(object, 0, 5, 5);
        for (int k = 1; k <= 5; k++) {
            due("a row of " + k + " to outcome 0", object.fitness(-1, 2 * k), k * LEVEL + 1);
            due("a row of " + k + " to outcome 1", object.fitness(-1, 2 * k + 1), k * LEVEL + 1);
        }
        runCall(object, 1, 5, 5);
        due("a row of 5 to the last goal", object.fitness(-1, 23), 5 * LEVEL + 1);
        due("no row in the other method", object.fitness(-1, 11), FAR);
    }

    private void leastDistanceOfALevel() {
        says("the distance is the least nearest distance of all hk which end such a row of k goals");
        BranchGoals object = started(BEHIND_DIVISION, NO_LINES);
        runCall(object, 0, 5, 8);
        dueFitness("the first is nearer", object, 0, 3, 0, 5, LEVEL + 3, LEVEL + 3, 2 * LEVEL + 3, 2 * LEVEL + 3);
        runSteps(object, new int[] {4, 6, 0, -1}, new int[] {0, 5, 8, -1});
        dueFitness("the second is nearer", object, 0, 3, 0, 1, LEVEL + 1, LEVEL + 1, 2 * LEVEL + 1, 2 * LEVEL + 1);
        BranchGoals forked = started(TWO_DIVISIONS, NO_LINES);
        runCall(forked, 0, 5, 8);
        dueFitness("rows through two branches, the first nearer", forked, 0, 3, LEVEL, LEVEL, LEVEL + 3, LEVEL + 3,
                2 * LEVEL, 2 * LEVEL);
        runCall(forked, 0, 5, 5);
        dueFitness("rows through two branches, the second nearer", forked, 1, 0, LEVEL + 1, LEVEL + 1, LEVEL, LEVEL,
                2 * LEVEL, 2 * LEVEL);
    }

    private void levelSixtyFour() {
        says("Is there none: level 64, distance 0.");
        BranchGoals object = started(CHAIN, ONE_IF);
        runCall(object, 4, 1, 0);
        dueFitness("no branch was done", object, FAR, FAR, FAR, FAR, FAR, FAR, FAR, FAR);
        runCall(object, 1, 5, 6);
        dueFitness("the other method was called", object, FAR, FAR, FAR, FAR, FAR, FAR, 0, 1);
        BranchGoals dead = started(new int[][] {{RETURN, 0, 0, 0}, {IFLT, 0, 1, 1}}, NO_LINES);
        runCall(dead, 0, 5, 6);
        dueFitness("it depends on itself alone", dead, FAR, FAR);
    }

    // ---- the archive ----

    private void archivedFirst() {
        says("if there is no archived case for the goal");
        BranchGoals object = startedQuietly(ONE_IF, ONE_IF);
        due("none at first", object.length(101), 0);
        runSteps(object, new int[] {0, 5, 5, -1}, new int[] {0, 5, 6, -1}, new int[] {1, 7, 7, -1});
        for (int g = 0; g < 4; g++) {
            due("archived for goal " + g, object.length(100 + g), g == 2 ? 0 : 3);
        }
        due("a goal is found if it has one", object.found(), 1 | 2 | 8);
    }

    private void archivedShorter() {
        says("or one with more steps, this one becomes the archived case of the goal");
        BranchGoals object = startedQuietly(ONE_IF, NO_LINES);
        runSteps(object, new int[] {0, 5, 5, -1}, new int[] {0, 1, 2, -1}, new int[] {4, 0, 0, -1});
        runSteps(object, new int[] {0, 6, 6, -1}, new int[] {0, 1, 2, -1}, new int[] {4, 0, 0, -1});
        due("as many steps: the first stays", object.step(101, 0, 1), 5);
        runSteps(object, new int[] {0, 7, 7, -1}, new int[] {4, 0, 0, -1});
        due("fewer steps", object.step(101, 0, 1), 7);
        due("the other goal keeps its own", object.step(100, 0, 1), 5);
        runSteps(object, new int[] {0, 8, 8, -1}, new int[] {4, 0, 0, -1}, new int[] {4, 0, 0, -1});
        due("more steps: the shorter stays", object.step(101, 0, 1), 7);
        runCall(object, 0, 9, 9);
        due("one step", object.step(101, 0, 1), 9);
        runCall(object, 0, 10, 10);
        due("one step again", object.step(101, 0, 1), 9);
    }

    private void archivedByStartAndEvolve() {
        says("When a case has been run by start, evolve or run");
        int byStart = 0;
        int byEvolve = 0;
        for (int seed = 0; seed < 40; seed++) {
            BranchGoals object = written(seed, ONE_IF, COUNT_UP);
            object.start();
            due("found by start", object.found(), object.covers(0) | object.covers(1));
            byStart += object.found() == 0 ? 0 : 1;
            int found = object.found();
            object.evolve();
            int covered = object.covers(0) | object.covers(1) | object.covers(2) | object.covers(3);
            due("found by evolve", object.found(), found | covered);
            byEvolve += object.found() == found ? 0 : 1;
            for (int g = 0; g < 4; g++) {
                due("archived for goal " + g, object.covers(100 + g) >> g & 1, object.found() >> g & 1);
            }
        }
        due("some were found by start", byStart > 0, true);
        due("some were found by evolve", byEvolve > 0, true);
    }

    private void trialsAreNotArchived() {
        says("When a case has been run by start, evolve or run (not as a trial)");
        BranchGoals object = startedQuietly(ONE_IF, NO_LINES);
        runSteps(object, new int[] {4, 5, 0, -1}, new int[] {0, 5, 5, -1});
        object.finish();
        due("a shorter trial covers the goal", object.length(200), 1);
        due("the archived one stays whole", object.length(101), 2);
        // The trial without the first step covers goal 0, which no case covered before.
        int[][] needsField = {{IFEQ, 0, 4, 2}, {RETURN, 0, 0, 0}, {RETURN, 1, 0, 0}};
        BranchGoals other = startedQuietly(needsField, NO_LINES);
        runSteps(other, new int[] {4, 5, 0, -1}, new int[] {0, 5, 0, -1});
        other.finish();
        due("a goal that only a trial covered is not found", other.found(), 2);
        due("the trial was run", other.runs(), 2 + 1 + 2);
    }

    // ---- active goals ----

    private void foundIsNotActive() {
        says("A goal is ACTIVE if it is not found");
        BranchGoals object = startedQuietly(ONE_IF, new int[][] {{IFLT, 0, 1, 0}});
        due("all open", object.active(), 15);
        runCall(object, 0, 5, 5);
        due("one found that depends on none", object.active(), 13);
        runCall(object, 1, 6, 5);
        due("one found that post-dominates line 0", object.active(), 9);
        runCall(object, 0, 5, 6);
        due("both found", object.active(), 8);
        BranchGoals chain = startedQuietly(CHAIN, NO_LINES);
        runCall(chain, 0, 5, 5);
        due("one found that depends on a found one", chain.active(), 1 | 1 << 3);
    }

    private void activeByDependingOnNone() {
        says("and its branch depends on no goal");
        int[][] notOnTheWay = {{RETURN, 0, 0, 0}, {IFLT, 0, 1, 3}};
        due("not even on the way", started(notOnTheWay, NO_LINES).active(), 3);
        due("the first alone", startedQuietly(CHAIN, NO_LINES).active(), 3);
        int[][] endless = {{IFEQ, 0, 1, 0}, {GO, 0, 0, 0}};
        due("no way to END", startedQuietly(NO_LINES, endless).active(), 3);
    }

    private void activeByPostDominatingLineZero() {
        says("or post-dominates line 0 of its method");
        due("depends on itself", startedQuietly(new int[][] {{IFLT, 0, 1, 0}}, NO_LINES).active(), 3);
        int[][] later = {{ADD, 2, 0, 1}, {IFLT, 0, 1, 1}};
        due("behind line 0", startedQuietly(later, NO_LINES).active(), 3);
        due("in method 1", startedQuietly(NO_LINES, later).active(), 3);
        int[][] dead = {{RETURN, 0, 0, 0}, {IFLT, 0, 1, 1}};
        due("depends on itself, not on the way", started(dead, NO_LINES).active(), 0);
    }

    private void activeByAFoundGoal() {
        says("or depends on a goal that is found");
        BranchGoals chain = startedQuietly(CHAIN, NO_LINES);
        runCall(chain, 0, 5, 6);
        due("the other outcome is found", chain.active(), 2);
        runCall(chain, 0, 5, 5);
        due("the outcome is found", chain.active(), 1 << 3);
        runCall(chain, 0, 0, 0);
        due("the next one is found", chain.active(), 1 << 5);
        BranchGoals twoWays = startedQuietly(TWO_WAYS, NO_LINES);
        runCall(twoWays, 0, 5, 6);
        due("none of two is found", twoWays.active(), 1 << 1 | 1 << 3);
        runCall(twoWays, 0, 0, 6);
        due("one of two is found", twoWays.active(), 1 << 1 | 1 << 5);
    }
}
