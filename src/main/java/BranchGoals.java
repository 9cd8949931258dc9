import java.util.Arrays;

/**
 * Looks for cases (short rows of calls) that drive two small methods through every outcome of their
 * branches. The document numbers its promises; the words used here are the document's terms.
 *
 * <p>All cases live in rows that the constructor makes and that are written over again, so that no
 * later call makes an object.
 */
public final class BranchGoals {
    private static final int SET = 0;
    private static final int ADD = 1;
    private static final int SUB = 2;
    private static final int MUL = 3;
    private static final int DIV = 4;
    private static final int IFEQ = 5;
    private static final int IFLT = 6;
    private static final int GO = 7;
    private static final int RETURN = 8;
    private static final int FAIL = 9;

    private static final int METHODS = 2;
    private static final int VARIABLES = 8;
    private static final int FIRST_FIELD = 4;
    private static final int MOST_LINES = 10;
    private static final int MOST_LINES_DONE = 40;
    private static final int MOST_WATCHED_SIZE = 20;
    /** A watched method has at most six: six lines and two for each of them are 18, seven would be 21. */
    private static final int MOST_BRANCHES = 12;
    private static final int MOST_GOALS = 2 * MOST_BRANCHES;
    private static final int NO_BRANCH = -1;

    private static final int MOST_STEPS = 6;
    private static final int PARTS = 4;
    private static final int KIND = 0;
    private static final int X = 1;
    private static final int Y = 2;
    private static final int REF = 3;
    private static final int NO_REF = -1;

    private static final long NOT_DONE = 4294967296L;
    private static final long BY_DIVISION = NOT_DONE + 1;
    private static final long BY_FAIL = NOT_DONE + 2;
    private static final long BY_TIME = NOT_DONE + 3;
    private static final long NO_RESULT = NOT_DONE + 4;

    private static final long LEVEL = 8589934592L;
    private static final long FARTHEST = 64 * LEVEL;
    /** No distance comes up to a level: the greatest is that of two ints, and one. */
    private static final long UNMEASURED = LEVEL;

    private static final int MOST_POPULATION = 5;
    private static final int CHILDREN = 2;
    private static final int LATEST = -1;
    private static final int FIRST_ARCHIVED = 100;
    private static final int FIRST_OF_SUITE = 200;

    private static final long DRAW_FACTOR = 25214903917L;
    private static final long DRAW_MASK = (1L << 48) - 1;

    private final Program program;
    private final Draws draws;
    private final Runner runner;
    private final Archive archive;
    private final Population population;
    private final Suite suite;
    private final Case written;
    private final Case latest;
    private boolean started;

    public BranchGoals(int seed) {
        program = new Program();
        draws = new Draws(seed);
        runner = new Runner();
        archive = new Archive();
        population = new Population();
        suite = new Suite();
        written = new Case();
        latest = new Case();
        started = false;
    }

    public boolean line(int m, int op, int a, int b, int c) {
        if (started || !isMethod(m)) {
            return false;
        }
        return program.methods[m].append(op, a, b, c);
    }

    public int start() {
        if (started) {
            return -1;
        }
        started = true;
        program.numberBranches();
        draws.gatherConstants(program);
        for (int i = 0; i < CHILDREN; i++) {
            Case fresh = population.child(i);
            draws.drawCase(fresh);
            runAndArchive(fresh);
        }
        population.takeInChildren(program.activeGoals(archive.goals));
        return program.goalCount();
    }

    public boolean watched(int m) {
        return started && isMethod(m) && program.methods[m].isWatched;
    }

    public boolean depends(int g, int h) {
        return isGoal(g) && isGoal(h) && hasGoal(program.needed[g / 2], h);
    }

    public boolean put(int kind, int x, int y, int ref) {
        int place = written.steps;
        if (place >= MOST_STEPS) {
            return false;
        }
        if (isField(kind)) {
            written.write(place, kind, x, 0, NO_REF);
        } else if (isMethod(kind) && ref >= NO_REF && ref < place) {
            written.write(place, kind, x, ref == NO_REF ? y : 0, ref);
        } else {
            return false;
        }
        written.steps++;
        return true;
    }

    public int run() {
        if (!started || written.steps == 0) {
            return -1;
        }
        runAndArchive(written);
        latest.copy(written);
        written.steps = 0;
        return latest.goals;
    }

    public int evolve() {
        if (!started) {
            return -1;
        }
        Case p = drawParent();
        Case q = drawParent();
        int s = draws.draw(p.steps);
        int t = draws.draw(q.steps);
        population.child(0).join(p, s, q, t);
        population.child(1).join(q, t, p, s);
        for (int i = 0; i < CHILDREN; i++) {
            draws.change(population.child(i));
            runAndArchive(population.child(i));
        }
        population.takeInChildren(program.activeGoals(archive.goals));
        return Integer.bitCount(archive.goals);
    }

    public int finish() {
        if (!started) {
            return -1;
        }
        suite.clear();
        for (int g = 0; g < program.goalCount(); g++) {
            if (hasGoal(archive.goals, g) && !hasGoal(suite.goals(), g)) {
                suite.appendCut(archive.best[g], g, runner, program);
            }
        }
        suite.dropNeedless();
        return suite.size;
    }

    public int found() {
        return archive.goals;
    }

    public int active() {
        return started ? program.activeGoals(archive.goals) : 0;
    }

    public int reported() {
        return suite.goals();
    }

    public int length(int which) {
        Case named = caseNamed(which);
        return named == null ? 0 : named.steps;
    }

    public int step(int which, int j, int part) {
        Case named = caseNamed(which);
        if (named == null || !named.hasStep(j) || part < 0 || part >= PARTS) {
            return 0;
        }
        return named.part(j, part);
    }

    public int covers(int which) {
        Case named = caseNamed(which);
        return named == null ? 0 : named.goals;
    }

    public long fitness(int which, int g) {
        Case named = caseNamed(which);
        return named == null || !isGoal(g) ? -1 : named.fitnesses[g];
    }

    public long result(int which, int j) {
        Case named = caseNamed(which);
        return named == null || !named.hasStep(j) ? NO_RESULT : named.results[j];
    }

    public int runs() {
        return runner.count;
    }

    public long state() {
        return draws.bits;
    }

    private void runAndArchive(Case subject) {
        runner.perform(subject, program);
        archive.admit(subject);
    }

    private Case drawParent() {
        int i = draws.draw(population.size);
        int j = draws.draw(population.size);
        return population.cases[Math.min(i, j)];
    }

    private boolean isGoal(int g) {
        return started && g >= 0 && g < program.goalCount();
    }

    /** The case that a WHICH names, null when there is no such case. */
    private Case caseNamed(int which) {
        if (which == LATEST) {
            return latest.steps == 0 ? null : latest;
        }
        if (which >= 0 && which < population.size) {
            return population.cases[which];
        }
        if (which >= FIRST_ARCHIVED && which < FIRST_ARCHIVED + MOST_GOALS) {
            int g = which - FIRST_ARCHIVED;
            return hasGoal(archive.goals, g) ? archive.best[g] : null;
        }
        if (which >= FIRST_OF_SUITE && which < FIRST_OF_SUITE + suite.size) {
            return suite.cases[which - FIRST_OF_SUITE];
        }
        return null;
    }

    private static boolean isMethod(int number) {
        return number >= 0 && number < METHODS;
    }

    private static boolean isField(int number) {
        return number >= FIRST_FIELD && number < VARIABLES;
    }

    private static boolean hasGoal(int goals, int g) {
        return (goals >> g & 1) != 0;
    }

    private static Case[] makeCases(int count) {
        Case[] cases = new Case[count];
        for (int i = 0; i < count; i++) {
            cases[i] = new Case();
        }
        return cases;
    }

    /** The lines of one method and the ways through them. Its place END has the number of its lines. */
    private static final class Method {
        final int[] ops = new int[MOST_LINES];
        final int[] as = new int[MOST_LINES];
        final int[] bs = new int[MOST_LINES];
        final int[] cs = new int[MOST_LINES];
        final int[] branchOf = new int[MOST_LINES];
        int lines = 0;
        boolean isWatched = false;

        boolean append(int op, int a, int b, int c) {
            if (lines >= MOST_LINES || !isAllowed(op, a, b, c)) {
                return false;
            }
            ops[lines] = op;
            as[lines] = a;
            bs[lines] = b;
            cs[lines] = c;
            branchOf[lines] = NO_BRANCH;
            lines++;
            return true;
        }

        private static boolean isAllowed(int op, int a, int b, int c) {
            switch (op) {
                case SET:
                case RETURN:
                    return isVariable(a);
                case ADD:
                case SUB:
                case MUL:
                case DIV:
                    return isVariable(a) && isVariable(b) && isVariable(c);
                case IFEQ:
                case IFLT:
                    return isVariable(a) && isVariable(b) && isTarget(c);
                case GO:
                    return isTarget(c);
                case FAIL:
                    return true;
                default:
                    return false;
            }
        }

        private static boolean isVariable(int number) {
            return number >= 0 && number < VARIABLES;
        }

        private static boolean isTarget(int number) {
            return number >= 0 && number <= MOST_LINES;
        }

        boolean isBranch(int i) {
            return ops[i] == IFEQ || ops[i] == IFLT;
        }

        /** Numbers the branches from first on if the method is watched; answers the next free number. */
        int numberBranches(int first) {
            int branches = 0;
            for (int i = 0; i < lines; i++) {
                if (isBranch(i)) {
                    branches++;
                }
            }
            isWatched = lines + 2 * branches <= MOST_WATCHED_SIZE;
            if (!isWatched) {
                return first;
            }
            int next = first;
            for (int i = 0; i < lines; i++) {
                if (isBranch(i)) {
                    branchOf[i] = next++;
                }
            }
            return next;
        }

        /** The place to which line i leads; the outcome counts for a branch only. */
        int placeAfter(int i, int outcome) {
            switch (ops[i]) {
                case IFEQ:
                case IFLT:
                    return outcome == 1 ? Math.min(cs[i], lines) : i + 1;
                case GO:
                    return Math.min(cs[i], lines);
                case RETURN:
                case FAIL:
                    return lines;
                default:
                    return i + 1;
            }
        }

        /** The set of places that the line y post-dominates. */
        int postDominatedBy(int y) {
            return placesReachingEnd(lines) & ~placesReachingEnd(y);
        }

        /** The set of places from which a way leads to END that does not pass the barred line. */
        private int placesReachingEnd(int barred) {
            int reaching = 1 << lines;
            // A way without a circle has no more edges than there are lines.
            for (int round = 0; round < lines; round++) {
                for (int i = lines - 1; i >= 0; i--) {
                    int after = 1 << placeAfter(i, 0) | 1 << placeAfter(i, 1);
                    if (i != barred && (reaching & after) != 0) {
                        reaching |= 1 << i;
                    }
                }
            }
            return reaching;
        }
    }

    /** Both methods, and which of their branches depend on which goals. */
    private static final class Program {
        final Method[] methods = {new Method(), new Method()};
        /** For each branch the set of goals on which it depends. */
        final int[] needed = new int[MOST_BRANCHES];
        /** For each branch whether its goals are active without any goal being found. */
        final boolean[] isOpen = new boolean[MOST_BRANCHES];
        int branches = 0;

        int goalCount() {
            return 2 * branches;
        }

        void numberBranches() {
            for (int m = 0; m < METHODS; m++) {
                branches = methods[m].numberBranches(branches);
                if (methods[m].isWatched) {
                    linkBranches(methods[m]);
                }
            }
        }

        private void linkBranches(Method method) {
            for (int p = 0; p < method.lines; p++) {
                if (method.isBranch(p)) {
                    int places = method.postDominatedBy(p);
                    int goals = goalsNeededAt(p, places, method);
                    needed[method.branchOf[p]] = goals;
                    isOpen[method.branchOf[p]] = goals == 0 || (places & 1) != 0;
                }
            }
        }

        /** The goals on which the branch in line p depends, which post-dominates the places given. */
        private static int goalsNeededAt(int p, int places, Method method) {
            int goals = 0;
            for (int q = 0; q < method.lines; q++) {
                if (method.isBranch(q) && (q == p || (places >> q & 1) == 0)) {
                    int first = 2 * method.branchOf[q];
                    goals |= (places >> method.placeAfter(q, 0) & 1) << first;
                    goals |= (places >> method.placeAfter(q, 1) & 1) << first + 1;
                }
            }
            return goals;
        }

        /** The goals on which the branch of at least one of the goals given depends. */
        int goalsNeededBy(int goals) {
            int all = 0;
            for (int k = 0; k < branches; k++) {
                if ((goals >> 2 * k & 3) != 0) {
                    all |= needed[k];
                }
            }
            return all;
        }

        int activeGoals(int found) {
            int goals = 0;
            for (int k = 0; k < branches; k++) {
                if (isOpen[k] || (needed[k] & found) != 0) {
                    goals |= 3 << 2 * k;
                }
            }
            return goals & ~found;
        }
    }

    /** A row of steps, and what came of it when it was last run. A step with a REF always has y 0. */
    private static final class Case {
        final int[] parts = new int[MOST_STEPS * PARTS];
        final long[] results = new long[MOST_STEPS];
        final long[] fitnesses = new long[MOST_GOALS];
        int steps = 0;
        /** The set of goals that it covers. */
        int goals = 0;
        int front = 0;
        int crowd = 0;

        boolean hasStep(int j) {
            return j >= 0 && j < steps;
        }

        int part(int j, int part) {
            return parts[j * PARTS + part];
        }

        void write(int j, int kind, int x, int y, int ref) {
            parts[j * PARTS + KIND] = kind;
            parts[j * PARTS + X] = x;
            parts[j * PARTS + Y] = y;
            parts[j * PARTS + REF] = ref;
        }

        void copy(Case other) {
            copySteps(other);
            System.arraycopy(other.results, 0, results, 0, MOST_STEPS);
            System.arraycopy(other.fitnesses, 0, fitnesses, 0, MOST_GOALS);
            goals = other.goals;
        }

        void copySteps(Case other) {
            System.arraycopy(other.parts, 0, parts, 0, MOST_STEPS * PARTS);
            steps = other.steps;
        }

        /** Becomes the first s steps of the head and then those of the tail from t on. */
        void join(Case head, int s, Case tail, int t) {
            System.arraycopy(head.parts, 0, parts, 0, s * PARTS);
            steps = Math.min(s + tail.steps - t, MOST_STEPS);
            System.arraycopy(tail.parts, t * PARTS, parts, s * PARTS, (steps - s) * PARTS);
            for (int j = s; j < steps; j++) {
                int ref = part(j, REF);
                parts[j * PARTS + REF] = ref < t ? NO_REF : ref - t + s;
            }
        }

        /** Moves the steps from place p on up by one; what then stands at p is to be written. */
        void makeRoom(int p) {
            System.arraycopy(parts, p * PARTS, parts, (p + 1) * PARTS, (steps - p) * PARTS);
            steps++;
            for (int j = p + 1; j < steps; j++) {
                if (part(j, REF) >= p) {
                    parts[j * PARTS + REF]++;
                }
            }
        }

        void takeOut(int p) {
            steps--;
            System.arraycopy(parts, (p + 1) * PARTS, parts, p * PARTS, (steps - p) * PARTS);
            for (int j = p; j < steps; j++) {
                int ref = part(j, REF);
                if (ref == p) {
                    parts[j * PARTS + REF] = NO_REF;
                } else if (ref > p) {
                    parts[j * PARTS + REF] = ref - 1;
                }
            }
        }

        boolean isReferredTo(int p) {
            for (int j = p + 1; j < steps; j++) {
                if (part(j, REF) == p) {
                    return true;
                }
            }
            return false;
        }
    }

    /** The state of the draws and all that is drawn from it. */
    private static final class Draws {
        final int[] constants = new int[METHODS * MOST_LINES];
        int constantCount = 0;
        long bits;

        Draws(int seed) {
            bits = (seed ^ DRAW_FACTOR) & DRAW_MASK;
        }

        void gatherConstants(Program program) {
            for (int m = 0; m < METHODS; m++) {
                Method method = program.methods[m];
                for (int i = 0; i < method.lines; i++) {
                    if (method.ops[i] == SET) {
                        constants[constantCount++] = method.cs[i];
                    }
                }
            }
        }

        int draw(int n) {
            bits = bits * DRAW_FACTOR + 11 & DRAW_MASK;
            return n < 1 ? 0 : (int) ((bits >>> 17) % n);
        }

        int drawNumber() {
            int k = draw(4);
            if (k == 0 || constantCount == 0) {
                return draw(21) - 10;
            }
            return constants[draw(constantCount)] + k - 2;
        }

        void drawStep(Case subject, int place) {
            int k = draw(5);
            if (k == 4) {
                int kind = FIRST_FIELD + draw(4);
                subject.write(place, kind, drawNumber(), 0, NO_REF);
                return;
            }
            int x = drawNumber();
            int ref = draw(place + 2);
            if (ref < place) {
                subject.write(place, k / 2, x, 0, ref);
            } else {
                subject.write(place, k / 2, x, drawNumber(), NO_REF);
            }
        }

        void drawCase(Case subject) {
            subject.steps = 1 + draw(2);
            for (int i = 0; i < subject.steps; i++) {
                drawStep(subject, i);
            }
        }

        void change(Case child) {
            int k = draw(3);
            if (k == 0) {
                if (child.steps < MOST_STEPS) {
                    int place = draw(child.steps + 1);
                    child.makeRoom(place);
                    drawStep(child, place);
                }
            } else if (k == 1) {
                if (child.steps > 1) {
                    child.takeOut(draw(child.steps));
                }
            } else {
                changeStep(child, draw(child.steps));
            }
        }

        private void changeStep(Case child, int p) {
            int u = draw(3);
            int at = p * PARTS;
            if (u == 0) {
                child.parts[at + X] = drawNumber();
            } else if (u == 1) {
                child.parts[at + X] += draw(9) - 4;
            } else if (isMethod(child.parts[at + KIND])) {
                child.parts[at + REF] = NO_REF;
                child.parts[at + Y] = drawNumber();
            }
        }
    }

    /** Runs cases and measures how far they were from each goal. */
    private static final class Runner {
        final int[] variables = new int[VARIABLES];
        final long[] nearest = new long[MOST_GOALS];
        int count = 0;

        void perform(Case subject, Program program) {
            count++;
            Arrays.fill(variables, 0);
            Arrays.fill(nearest, UNMEASURED);
            boolean isOver = false;
            for (int j = 0; j < subject.steps; j++) {
                subject.results[j] = isOver ? NOT_DONE : doStep(subject, j, program);
                isOver = isOver || subject.results[j] == BY_TIME;
            }
            subject.goals = 0;
            for (int g = 0; g < program.goalCount(); g++) {
                subject.goals |= nearest[g] == 0 ? 1 << g : 0;
                subject.fitnesses[g] = fitnessFor(g, program);
            }
        }

        private long doStep(Case subject, int j, Program program) {
            int kind = subject.part(j, KIND);
            int x = subject.part(j, X);
            if (!isMethod(kind)) {
                variables[kind] = x;
                return 0;
            }
            int ref = subject.part(j, REF);
            variables[0] = x;
            variables[1] = ref == NO_REF ? subject.part(j, Y) : valueOf(subject.results[ref]);
            variables[2] = 0;
            variables[3] = 0;
            return callMethod(program.methods[kind]);
        }

        private static int valueOf(long result) {
            return result == (int) result ? (int) result : 0;
        }

        private long callMethod(Method method) {
            int i = 0;
            for (int done = 0; done < MOST_LINES_DONE && i < method.lines; done++) {
                int op = method.ops[i];
                if (op == RETURN) {
                    return variables[method.as[i]];
                }
                if (op == FAIL) {
                    return BY_FAIL;
                }
                if (op == DIV && variables[method.cs[i]] == 0) {
                    return BY_DIVISION;
                }
                i = doLine(method, i);
            }
            return i < method.lines ? BY_TIME : 0;
        }

        /** Does a line that does not end the call; answers the place where it goes on. */
        private int doLine(Method method, int i) {
            int op = method.ops[i];
            if (op == SET) {
                variables[method.as[i]] = method.cs[i];
            } else if (op <= DIV) {
                int b = variables[method.bs[i]];
                int c = variables[method.cs[i]];
                variables[method.as[i]] = calculate(op, b, c);
            }
            return method.placeAfter(i, method.isBranch(i) ? decide(method, i) : 0);
        }

        private static int calculate(int op, int b, int c) {
            switch (op) {
                case ADD:
                    return b + c;
                case SUB:
                    return b - c;
                case MUL:
                    return b * c;
                default:
                    return c == 0 ? 0 : b / c;
            }
        }

        /** The outcome of the branch in line i; notes the distances to both outcomes if it is watched. */
        private int decide(Method method, int i) {
            long a = variables[method.as[i]];
            long b = variables[method.bs[i]];
            long toGoOn;
            long toJump;
            if (method.ops[i] == IFEQ) {
                toGoOn = a == b ? 1 : 0;
                toJump = Math.abs(a - b);
            } else {
                toGoOn = a >= b ? 0 : b - a;
                toJump = a < b ? 0 : a - b + 1;
            }
            int branch = method.branchOf[i];
            if (branch != NO_BRANCH) {
                nearest[2 * branch] = Math.min(nearest[2 * branch], toGoOn);
                nearest[2 * branch + 1] = Math.min(nearest[2 * branch + 1], toJump);
            }
            return toJump == 0 ? 1 : 0;
        }

        private long fitnessFor(int g, Program program) {
            int goals = 1 << g;
            for (int level = 0; level <= MOST_BRANCHES && goals != 0; level++) {
                long distance = leastNearest(goals, program.goalCount());
                if (distance != UNMEASURED) {
                    return level * LEVEL + distance;
                }
                goals = program.goalsNeededBy(goals);
            }
            return FARTHEST;
        }

        private long leastNearest(int goals, int goalCount) {
            long least = UNMEASURED;
            for (int g = 0; g < goalCount; g++) {
                if (hasGoal(goals, g)) {
                    least = Math.min(least, nearest[g]);
                }
            }
            return least;
        }
    }

    /** For each goal that was found the shortest case that covered it. */
    private static final class Archive {
        final Case[] best = makeCases(MOST_GOALS);
        /** The set of found goals. */
        int goals = 0;

        void admit(Case subject) {
            for (int g = 0; g < MOST_GOALS; g++) {
                if (hasGoal(subject.goals, g) && (!hasGoal(goals, g) || best[g].steps > subject.steps)) {
                    best[g].copy(subject);
                }
            }
            goals |= subject.goals;
        }
    }

    /** The cases that are bred, in their order, with room for two children behind them. */
    private static final class Population {
        /** Behind the last front that there can be, that of a list where each case has one of its own. */
        private static final int UNPLACED = MOST_POPULATION + CHILDREN + 1;

        final Case[] cases = makeCases(MOST_POPULATION + CHILDREN);
        int size = 0;

        Case child(int i) {
            return cases[size + i];
        }

        void takeInChildren(int active) {
            int count = size + CHILDREN;
            placeFronts(count, active);
            for (int i = 0; i < count; i++) {
                cases[i].crowd = crowdOf(cases[i], count, active);
            }
            sort(count);
            size = Math.min(count, MOST_POPULATION);
        }

        private void placeFronts(int count, int active) {
            for (int i = 0; i < count; i++) {
                cases[i].front = UNPLACED;
            }
            for (int g = 0; g < MOST_GOALS; g++) {
                if (hasGoal(active, g)) {
                    preferredFor(g, count).front = 0;
                }
            }
            // Of what is left some case is always beaten by none, so each front takes in at least one.
            for (int front = 1; front <= count; front++) {
                for (int i = 0; i < count; i++) {
                    if (cases[i].front == UNPLACED && !isBeaten(cases[i], front, count, active)) {
                        cases[i].front = front;
                    }
                }
            }
        }

        private Case preferredFor(int g, int count) {
            Case preferred = cases[0];
            for (int i = 1; i < count; i++) {
                long gap = cases[i].fitnesses[g] - preferred.fitnesses[g];
                if (gap < 0 || gap == 0 && cases[i].steps < preferred.steps) {
                    preferred = cases[i];
                }
            }
            return preferred;
        }

        /** Whether one of those that no earlier front took in beats the case. */
        private boolean isBeaten(Case subject, int front, int count, int active) {
            for (int i = 0; i < count; i++) {
                if (cases[i].front >= front
                        && goalsNearer(cases[i], subject, active) > 0
                        && goalsNearer(subject, cases[i], active) == 0) {
                    return true;
                }
            }
            return false;
        }

        private int crowdOf(Case subject, int count, int active) {
            int crowd = 0;
            for (int i = 0; i < count; i++) {
                if (cases[i].front == subject.front) {
                    crowd = Math.max(crowd, goalsNearer(cases[i], subject, active));
                }
            }
            return crowd;
        }

        /** For how many active goals the one case has a smaller fitness than the other. */
        private static int goalsNearer(Case one, Case other, int active) {
            int count = 0;
            for (int g = 0; g < MOST_GOALS; g++) {
                if (hasGoal(active, g) && one.fitnesses[g] < other.fitnesses[g]) {
                    count++;
                }
            }
            return count;
        }

        /** Sorts by insertion, which leaves cases that are level in the order that they had. */
        private void sort(int count) {
            for (int i = 1; i < count; i++) {
                Case moving = cases[i];
                int place = i;
                while (place > 0 && goesBefore(moving, cases[place - 1])) {
                    cases[place] = cases[place - 1];
                    place--;
                }
                cases[place] = moving;
            }
        }

        private static boolean goesBefore(Case one, Case other) {
            if (one.front != other.front) {
                return one.front < other.front;
            }
            if (one.crowd != other.crowd) {
                return one.crowd < other.crowd;
            }
            return one.steps < other.steps;
        }
    }

    /** The small set of cut cases that finish makes. */
    private static final class Suite {
        final Case[] cases = makeCases(MOST_GOALS);
        final Case trial = new Case();
        int size = 0;

        void clear() {
            size = 0;
        }

        /** The set of goals that at least one of its cases covers. */
        int goals() {
            return goalsOf(0, size);
        }

        private int goalsOf(int from, int to) {
            int goals = 0;
            for (int i = from; i < to; i++) {
                goals |= cases[i].goals;
            }
            return goals;
        }

        void appendCut(Case archived, int g, Runner runner, Program program) {
            Case cut = cases[size];
            cut.copy(archived);
            // Taking a step out moves only later ones, which have been tried already.
            for (int j = archived.steps - 1; j >= 0; j--) {
                if (cut.steps > 1 && !cut.isReferredTo(j)) {
                    trial.copySteps(cut);
                    trial.takeOut(j);
                    runner.perform(trial, program);
                    if (hasGoal(trial.goals, g)) {
                        cut.copy(trial);
                    }
                }
            }
            size++;
        }

        void dropNeedless() {
            int kept = 0;
            for (int i = 0; i < size; i++) {
                int others = goalsOf(0, kept) | goalsOf(i + 1, size);
                if ((cases[i].goals & ~others) != 0) {
                    // What is dropped changes places with what is kept, so that its row is not lost.
                    Case dropped = cases[kept];
                    cases[kept] = cases[i];
                    cases[i] = dropped;
                    kept++;
                }
            }
            size = kept;
        }
    }
}
