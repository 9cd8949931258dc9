import java.util.ArrayList;
import java.util.Collections;
import java.util.Comparator;
import java.util.IdentityHashMap;
import java.util.List;
import java.util.Map;
import java.util.Set;
import java.util.TreeMap;
import java.util.TreeSet;
import java.util.function.ToLongFunction;
import java.util.stream.IntStream;

/**
 * The document once more, in its own words and by other means than the program: a REF is a link to the
 * step it means, post-domination lists all ways, and cases are run anew whenever they are asked about.
 *
 * <p>It can be made with a fault, and then breaks one sentence of the document: so a test can show that
 * it would see the program breaking that sentence.
 */
final class Model {
    /** One step; links are followed by identity, so references follow by themselves. */
    static final class Step {
        int kind;
        int x;
        int y;
        Step ref;
    }

    record Line(int op, int a, int b, int c) {
    }

    record Branch(int method, int line) {
    }

    /** What came of running a case. */
    record Outcome(long[] results, Map<Integer, Long> nearest) {
        boolean covers(int g) {
            return nearest.getOrDefault(g, 1L) == 0;
        }
    }

    private static final long BASE = 4294967296L;

    final List<List<Line>> methods = List.of(new ArrayList<>(), new ArrayList<>());
    final List<Branch> branches = new ArrayList<>();
    /** For each branch the goals on which it depends; listing all ways is too dear to do it at each ask. */
    final List<Set<Integer>> needed = new ArrayList<>();
    final List<List<Step>> archive = new ArrayList<>();
    List<List<Step>> population = new ArrayList<>();
    List<List<Step>> suite = new ArrayList<>();
    List<Step> written = new ArrayList<>();
    List<Step> latest;
    boolean started = false;
    int runs = 0;
    long state;

    private final Fault fault;

    Model(int seed) {
        this(seed, null);
    }

    Model(int seed, Fault fault) {
        this.fault = fault;
        state = ((long) seed ^ 25214903917L) & 0xFFFFFFFFFFFFL;
    }

    private boolean breaks(Fault one) {
        return fault == one;
    }

    // ---- the face ----

    boolean line(int m, int op, int a, int b, int c) {
        if (started || m < 0 || m > 1 || methods.get(m).size() == 10 || op < 0 || op > 9) {
            return false;
        }
        boolean namesA = op != 7 && op != 9;
        boolean namesB = op >= 1 && op <= 6;
        boolean namesVariableC = op >= 1 && op <= 4;
        boolean namesLineC = op >= 5 && op <= 7;
        if (namesA && (a < 0 || a > 7) || namesB && (b < 0 || b > 7)
                || namesVariableC && (c < 0 || c > 7) || namesLineC && (c < 0 || c > 10)) {
            return false;
        }
        methods.get(m).add(new Line(op, a, b, c));
        return true;
    }

    int start() {
        if (started) {
            return -1;
        }
        started = true;
        for (int m = 0; m < 2; m++) {
            for (int i = 0; i < methods.get(m).size(); i++) {
                if (watched(m) && isBranch(m, i)) {
                    branches.add(new Branch(m, i));
                    archive.add(null);
                    archive.add(null);
                }
            }
        }
        for (int k = 0; k < branches.size(); k++) {
            needed.add(goalsNeededBy(k));
        }
        for (int n = 0; n < 2; n++) {
            List<Step> fresh = drawCase();
            population.add(fresh);
            runAndArchive(fresh);
        }
        population = inOrder(population, active());
        return goals();
    }

    boolean watched(int m) {
        if (!started || m < 0 || m > 1) {
            return false;
        }
        int size = methods.get(m).size();
        for (int i = 0; i < methods.get(m).size(); i++) {
            size += isBranch(m, i) ? 2 : 0;
        }
        return size <= 20;
    }

    boolean depends(int g, int h) {
        if (!isGoal(g) || !isGoal(h)) {
            return false;
        }
        Branch p = branches.get(g / 2);
        Branch q = branches.get(h / 2);
        return p.method == q.method
                && postDominates(p.method, p.line, edges(q.method, q.line).get(h % 2))
                && (p.line == q.line || !postDominates(p.method, p.line, q.line));
    }

    boolean put(int kind, int x, int y, int ref) {
        boolean isCall = kind == 0 || kind == 1;
        if (written.size() == 6 || !isCall && (kind < 4 || kind > 7)
                || isCall && (ref < -1 || ref > written.size() - 1)) {
            return false;
        }
        Step step = new Step();
        step.kind = kind;
        step.x = x;
        if (isCall && ref == -1) {
            step.y = y;
        }
        if (isCall && ref != -1) {
            step.ref = written.get(ref);
        }
        written.add(step);
        return true;
    }

    int run() {
        if (!started || written.isEmpty()) {
            return -1;
        }
        latest = written;
        written = new ArrayList<>();
        runAndArchive(latest);
        return coveredBy(latest);
    }

    int evolve() {
        if (!started) {
            return -1;
        }
        int activeBefore = active();
        List<Step> p = drawParent();
        List<Step> q = drawParent();
        int s = draw(p.size()) + (breaks(Fault.CUT_BEHIND_THE_STEP) ? 1 : 0);
        int t = draw(q.size()) + (breaks(Fault.CUT_BEHIND_THE_STEP) ? 1 : 0);
        List<Step> first = putTogether(p, s, q, t);
        List<Step> second = putTogether(q, t, p, s);
        for (List<Step> child : breaks(Fault.SECOND_CHILD_FIRST) ? List.of(second, first) : List.of(first, second)) {
            change(child);
            if (breaks(Fault.CHILDREN_NOT_ARCHIVED)) {
                runs++;
            } else {
                runAndArchive(child);
            }
        }
        List<List<Step>> all = new ArrayList<>(population);
        all.add(first);
        all.add(second);
        all = inOrder(all, breaks(Fault.ORDER_BY_EARLIER_GOALS) ? activeBefore : active());
        population = all.subList(0, Math.min(breaks(Fault.SIX_IN_THE_POPULATION) ? 6 : 5, all.size()));
        return Integer.bitCount(found());
    }

    int finish() {
        if (!started) {
            return -1;
        }
        suite = breaks(Fault.SUITE_GROWS) ? suite : new ArrayList<>();
        for (int n = 0; n < goals(); n++) {
            int g = breaks(Fault.FALLING_ORDER) ? goals() - 1 - n : n;
            boolean isCovered = (reported() >> g & 1) == 1 && !breaks(Fault.EVERY_FOUND_GOAL);
            if (archive.get(g) != null && !isCovered) {
                suite.add(cut(archive.get(g), g));
            }
        }
        if (!breaks(Fault.NONE_DROPPED)) {
            dropNeedless();
        }
        if (breaks(Fault.OTHERS_TURNED_ROUND)) {
            Collections.reverse(suite);
        }
        return suite.size();
    }

    private void dropNeedless() {
        for (List<Step> one : new ArrayList<>(suite)) {
            int others = 0;
            for (List<Step> other : suite) {
                others |= other == one ? 0 : coveredBy(other);
            }
            if ((coveredBy(one) | others) == others) {
                suite.removeIf(each -> each == one);
            }
        }
    }

    int found() {
        int set = 0;
        for (int g = 0; g < archive.size(); g++) {
            set |= archive.get(g) == null ? 0 : 1 << g;
        }
        return set;
    }

    int active() {
        int set = 0;
        for (int g = 0; g < goals(); g++) {
            set |= isActive(g) ? 1 << g : 0;
        }
        return set;
    }

    int reported() {
        int set = 0;
        for (List<Step> one : suite) {
            set |= coveredBy(one);
        }
        return set;
    }

    int length(int which) {
        return named(which) == null ? 0 : named(which).size();
    }

    int step(int which, int j, int part) {
        List<Step> one = named(which);
        if (one == null || j < 0 || j >= one.size()) {
            return 0;
        }
        Step step = one.get(j);
        return part == 0 ? step.kind : part == 1 ? step.x : part == 2 ? step.y : part == 3 ? one.indexOf(step.ref) : 0;
    }

    int covers(int which) {
        return named(which) == null ? 0 : coveredBy(named(which));
    }

    long fitness(int which, int g) {
        return named(which) == null || !isGoal(g) ? -1 : fitnessOf(outcomeOf(named(which)), g);
    }

    long result(int which, int j) {
        List<Step> one = named(which);
        return one == null || j < 0 || j >= one.size() ? BASE + 4 : outcomeOf(one).results[j];
    }

    // ---- methods, ways and dependence ----

    int goals() {
        return 2 * branches.size();
    }

    private boolean isGoal(int g) {
        return started && g >= 0 && g < goals();
    }

    private boolean isBranch(int m, int i) {
        return methods.get(m).get(i).op == 5 || methods.get(m).get(i).op == 6;
    }

    /** Where line i may go on; for a branch by its outcomes 0 and 1. */
    private List<Integer> edges(int m, int i) {
        int end = methods.get(m).size();
        Line line = methods.get(m).get(i);
        int target = line.c < end ? line.c : end;
        return switch (line.op) {
            case 5, 6 -> List.of(i + 1, target);
            case 7 -> List.of(target);
            case 8, 9 -> List.of(end);
            default -> List.of(i + 1);
        };
    }

    private boolean postDominates(int m, int y, int x) {
        List<Set<Integer>> ways = new ArrayList<>();
        collectWays(m, x, new TreeSet<>(), ways);
        return !ways.isEmpty() && ways.stream().allMatch(way -> way.contains(y));
    }

    /** All ways to END that pass no place twice: another way passes every place of one of these. */
    private void collectWays(int m, int place, Set<Integer> before, List<Set<Integer>> ways) {
        if (before.contains(place)) {
            return;
        }
        Set<Integer> way = new TreeSet<>(before);
        way.add(place);
        if (place == methods.get(m).size()) {
            ways.add(way);
            return;
        }
        for (int next : edges(m, place)) {
            collectWays(m, next, way, ways);
        }
    }

    private Set<Integer> goalsNeededBy(int k) {
        Set<Integer> goals = new TreeSet<>();
        for (int h = 0; h < goals(); h++) {
            if (depends(2 * k, h)) {
                goals.add(h);
            }
        }
        return goals;
    }

    private boolean isActive(int g) {
        Branch branch = branches.get(g / 2);
        Set<Integer> goals = needed.get(g / 2);
        return archive.get(g) == null
                && (goals.isEmpty() || goals.stream().anyMatch(h -> archive.get(h) != null)
                        || postDominates(branch.method, branch.line, 0));
    }

    // ---- running and measuring ----

    private void runAndArchive(List<Step> one) {
        runs++;
        Outcome outcome = outcomeOf(one);
        for (int g = 0; g < goals(); g++) {
            if (outcome.covers(g) && (archive.get(g) == null || isShorter(one, archive.get(g)))) {
                archive.set(g, one);
            }
        }
    }

    private boolean isShorter(List<Step> one, List<Step> archived) {
        if (breaks(Fault.ARCHIVED_STAYS)) {
            return false;
        }
        return one.size() < archived.size() || breaks(Fault.ARCHIVED_FOR_AS_MANY_STEPS) && one.size() == archived.size();
    }

    private int coveredBy(List<Step> one) {
        Outcome outcome = outcomeOf(one);
        int set = 0;
        for (int g = 0; g < goals(); g++) {
            set |= outcome.covers(g) ? 1 << g : 0;
        }
        return set;
    }

    private Outcome outcomeOf(List<Step> one) {
        Outcome outcome = new Outcome(new long[one.size()], new TreeMap<>());
        int[] v = new int[8];
        Map<Step, Integer> values = new IdentityHashMap<>();
        boolean timeIsUp = false;
        for (int j = 0; j < one.size(); j++) {
            Step step = one.get(j);
            if (timeIsUp) {
                outcome.results[j] = BASE;
            } else if (step.kind >= 4) {
                v[step.kind] = step.x;
            } else {
                v[0] = step.x;
                v[1] = step.ref == null ? step.y : values.get(step.ref);
                v[2] = 0;
                v[3] = 0;
                outcome.results[j] = call(step.kind, v, outcome.nearest);
            }
            timeIsUp |= outcome.results[j] == BASE + 3;
            values.put(step, outcome.results[j] >= BASE ? 0 : (int) outcome.results[j]);
        }
        return outcome;
    }

    private long call(int m, int[] v, Map<Integer, Long> nearest) {
        List<Line> lines = methods.get(m);
        int i = 0;
        int done = 0;
        while (i < lines.size()) {
            if (done == 40) {
                return BASE + 3;
            }
            done++;
            Line line = lines.get(i);
            i++;
            switch (line.op) {
                case 0 -> v[line.a] = line.c;
                case 1 -> v[line.a] = v[line.b] + v[line.c];
                case 2 -> v[line.a] = v[line.b] - v[line.c];
                case 3 -> v[line.a] = v[line.b] * v[line.c];
                case 4 -> {
                    if (v[line.c] == 0) {
                        return BASE + 1;
                    }
                    v[line.a] = v[line.b] / v[line.c];
                }
                case 5, 6 -> {
                    measure(m, i - 1, v[line.a], v[line.b], nearest);
                    if (line.op == 5 ? v[line.a] == v[line.b] : v[line.a] < v[line.b]) {
                        i = line.c;
                    }
                }
                case 7 -> i = line.c;
                case 8 -> {
                    return v[line.a];
                }
                default -> {
                    return BASE + 2;
                }
            }
        }
        return 0;
    }

    private void measure(int m, int i, long a, long b, Map<Integer, Long> nearest) {
        int k = branches.indexOf(new Branch(m, i));
        if (k < 0) {
            return;
        }
        if (methods.get(m).get(i).op == 5) {
            nearest.merge(2 * k, a != b ? 0L : 1L, Math::min);
            nearest.merge(2 * k + 1, a > b ? a - b : b - a, Math::min);
        } else {
            nearest.merge(2 * k, a >= b ? 0L : b - a, Math::min);
            nearest.merge(2 * k + 1, a < b ? 0L : a - b + 1, Math::min);
        }
    }

    private long fitnessOf(Outcome outcome, int g) {
        Map<Integer, Long> nearest = outcome.nearest;
        if (nearest.containsKey(g)) {
            return nearest.get(g);
        }
        Set<Integer> ends = Set.of(g);
        for (int level = 1; level < 64 && !ends.isEmpty(); level++) {
            Set<Integer> next = new TreeSet<>();
            ends.forEach(end -> next.addAll(needed.get(end / 2)));
            ends = next;
            long least = ends.stream().filter(nearest::containsKey).mapToLong(nearest::get).min().orElse(-1);
            if (least >= 0) {
                return level * 8589934592L + least;
            }
        }
        return 64 * 8589934592L;
    }

    // ---- drawing, breeding, order ----

    private int draw(int n) {
        long next = state * 25214903917L + 11;
        state = breaks(Fault.STATE_NOT_CUT) ? next : next & 0xFFFFFFFFFFFFL;
        long bits = breaks(Fault.LOWEST_BITS_DRAWN) ? next & 0x7FFFFFFFL : (next & 0xFFFFFFFFFFFFL) >> 17;
        return (int) (bits % n);
    }

    private int drawNumber() {
        List<Integer> constants = constants();
        int k = draw(4);
        if (constants.isEmpty()) {
            return k != 0 && breaks(Fault.NUMBER_WITHOUT_SET) ? k - 2 : draw(21) - 10;
        }
        if (k == 0 && !breaks(Fault.NUMBER_WITHOUT_K_0)) {
            return draw(21) - 10;
        }
        long number = (long) constants.get(draw(constants.size())) + k - 2;
        return breaks(Fault.NUMBER_STOPS_AT_THE_EDGE) ? stopped(number) : (int) number;
    }

    private List<Integer> constants() {
        List<Integer> constants = new ArrayList<>();
        for (int m : breaks(Fault.SETS_OF_METHOD_1_FIRST) ? List.of(1, 0) : List.of(0, 1)) {
            if (watched(m) || !breaks(Fault.SETS_OF_WATCHED_ALONE)) {
                methods.get(m).stream().filter(line -> line.op == 0).forEach(line -> constants.add(line.c));
            }
        }
        return constants;
    }

    private static int stopped(long number) {
        return (int) Math.max(Integer.MIN_VALUE, Math.min(Integer.MAX_VALUE, number));
    }

    /** A step for the place behind the steps given. */
    private Step drawStep(List<Step> before) {
        Step step = new Step();
        int k = draw(5);
        step.kind = k == 4 ? 4 + draw(4) : k / 2;
        step.x = drawNumber();
        if (k != 4) {
            int r = draw(before.size() + (breaks(Fault.REF_OF_ONE_LESS) ? 1 : 2));
            if (r < before.size()) {
                step.ref = before.get(r);
            } else {
                step.y = drawNumber();
            }
        }
        if (k == 4 && breaks(Fault.FIELD_STEP_DRAWS_Y) || step.ref != null && breaks(Fault.REF_STEP_DRAWS_Y)) {
            drawNumber();
        }
        return step;
    }

    private List<Step> drawCase() {
        List<Step> fresh = new ArrayList<>();
        int count = 1 + draw(breaks(Fault.CASE_OF_ONE_STEP_MORE) ? 3 : 2);
        while (fresh.size() < count) {
            fresh.add(drawStep(breaks(Fault.PLACE_IS_ALWAYS_0) ? List.of() : fresh));
        }
        return fresh;
    }

    private List<Step> drawParent() {
        int i = draw(population.size());
        int j = draw(population.size());
        return population.get(i < j != breaks(Fault.PARENT_BY_THE_GREATER) ? i : j);
    }

    private static List<Step> copy(List<Step> one) {
        List<Step> copies = new ArrayList<>();
        for (Step step : one) {
            Step copy = new Step();
            copy.kind = step.kind;
            copy.x = step.x;
            copy.y = step.y;
            copy.ref = step.ref == null ? null : copies.get(one.indexOf(step.ref));
            copies.add(copy);
        }
        return copies;
    }

    /** Both parents are copied, so that their steps are different ones even where they are the same case. */
    private List<Step> putTogether(List<Step> p, int s, List<Step> q, int t) {
        List<Step> from = copy(q);
        List<Step> child = new ArrayList<>(copy(p).subList(0, s));
        child.addAll(from.subList(t, q.size()));
        while (child.size() > 6 && !breaks(Fault.SEVENTH_STEP_STAYS)) {
            child.remove(6);
        }
        for (Step step : child) {
            int number = step.ref == null ? -1 : from.indexOf(step.ref);
            boolean isLost = !child.contains(step.ref);
            if (number >= 0 && (breaks(Fault.JOINED_REF_KEEPS_ITS_NUMBER) && !isLost
                    || breaks(Fault.REF_TO_THE_OTHER_PARENT) && isLost
                    || breaks(Fault.REF_TO_THE_SAME_CASE) && isLost && p == q && number < s)) {
                linkByNumber(child, step, number);
            }
        }
        dropLostLinks(child);
        return child;
    }

    private static void dropLostLinks(List<Step> one) {
        for (Step step : one) {
            if (step.ref != null && !one.contains(step.ref)) {
                step.ref = null;
                step.y = 0;
            }
        }
    }

    /** Only for faults: a REF that means whatever step now has the number. */
    private static void linkByNumber(List<Step> one, Step step, int number) {
        step.ref = number < one.indexOf(step) ? one.get(number) : null;
    }

    private static Map<Step, Integer> numbersOfRefs(List<Step> one) {
        Map<Step, Integer> numbers = new IdentityHashMap<>();
        one.forEach(step -> numbers.put(step, one.indexOf(step.ref)));
        return numbers;
    }

    private void change(List<Step> child) {
        int k = draw(3);
        if (k == 0) {
            if (child.size() < 6 || breaks(Fault.STEP_PUT_INTO_SIX)) {
                putIn(child);
            } else if (breaks(Fault.PLACE_DRAWN_THOUGH_FULL)) {
                draw(child.size() + 1);
            }
        } else if (k == 1) {
            if (child.size() > 1) {
                takeOut(child);
            } else if (breaks(Fault.ONLY_STEP_DRAWN)) {
                draw(child.size());
            }
        } else {
            changeStep(child.get(draw(child.size())));
        }
    }

    private void putIn(List<Step> child) {
        Map<Step, Integer> numbers = numbersOfRefs(child);
        int p = draw(breaks(Fault.NO_STEP_PUT_AT_THE_END) ? child.size() : child.size() + 1);
        Step fresh = drawStep(child.subList(0, breaks(Fault.STEP_DRAWN_FOR_THE_LAST_PLACE) ? child.size() : p));
        fresh.ref = child.indexOf(fresh.ref) < p ? fresh.ref : null;
        child.add(p, fresh);
        numbers.forEach((step, number) -> {
            if (number >= p && breaks(Fault.REF_STAYS_WHEN_MOVED_UP)) {
                linkByNumber(child, step, number);
            }
        });
    }

    private void takeOut(List<Step> child) {
        Map<Step, Integer> numbers = numbersOfRefs(child);
        int p = draw(child.size());
        numbers.remove(child.remove(p));
        numbers.forEach((step, number) -> {
            if (number > p && breaks(Fault.REF_STAYS_WHEN_MOVED_DOWN)
                    || number == p && breaks(Fault.REF_TO_WHAT_WAS_TAKEN_OUT)) {
                linkByNumber(child, step, number);
            }
        });
        dropLostLinks(child);
    }

    private void changeStep(Step step) {
        int u = draw(3);
        if (u == 0) {
            step.x = drawNumber();
        } else if (u == 1) {
            long number = (long) step.x + draw(9) - 4;
            step.x = breaks(Fault.X_STOPS_AT_THE_EDGE) ? stopped(number) : (int) number;
        } else if (step.kind < 2) {
            step.ref = breaks(Fault.REF_STAYS_BESIDE_Y) ? step.ref : null;
            step.y = drawNumber();
        } else if (breaks(Fault.Y_DRAWN_FOR_A_FIELD)) {
            drawNumber();
        }
    }

    /** A case on its way through the ordering, with its fitness for each active goal; only a fault looks at the others. */
    private record Ranked(List<Step> steps, List<Long> fitness, List<Long> ofFoundGoals, int before) {
        long nearerThan(Ranked other) {
            return smaller(fitness, other.fitness);
        }

        static long smaller(List<Long> some, List<Long> others) {
            long count = 0;
            for (int n = 0; n < some.size(); n++) {
                count += some.get(n) < others.get(n) ? 1 : 0;
            }
            return count;
        }
    }

    private List<List<Step>> inOrder(List<List<Step>> cases, int active) {
        if (active == 0 && breaks(Fault.NO_ORDER_WITHOUT_ACTIVE_GOALS)) {
            return cases;
        }
        List<Ranked> all = ranked(cases, active);
        List<Ranked> left = new ArrayList<>(all);
        List<List<Step>> ordered = new ArrayList<>();
        List<Ranked> front = breaks(Fault.PREFERRED_ARE_NOT_FRONT_0) ? List.of() : preferred(all, Integer.bitCount(active));
        for (int number = 1; ; number++) {
            left.removeAll(front);
            sorted(front, all).forEach(one -> ordered.add(one.steps));
            if (left.isEmpty()) {
                return ordered;
            }
            List<Ranked> others = breaks(Fault.BEATEN_BY_FRONT_0) ? all : List.copyOf(left);
            front = new ArrayList<>(left);
            front.removeIf(one -> others.stream().anyMatch(other -> beats(other, one)));
            if (front.isEmpty() || number == 2 && breaks(Fault.ALL_BEATEN_ARE_FRONT_2)
                    || number == 3 && breaks(Fault.ALL_LEFT_ARE_FRONT_3)
                    || number == 4 && breaks(Fault.ALL_LEFT_ARE_FRONT_4)) {
                front = new ArrayList<>(left);
            }
        }
    }

    private List<Ranked> ranked(List<List<Step>> cases, int active) {
        List<Ranked> all = new ArrayList<>();
        for (List<Step> one : cases) {
            Outcome outcome = outcomeOf(one);
            List<Long> fitness = new ArrayList<>();
            List<Long> ofFoundGoals = new ArrayList<>();
            for (int g = 0; g < goals(); g++) {
                if ((active >> g & 1) == 1) {
                    fitness.add(fitnessOf(outcome, g));
                } else if (breaks(Fault.CROWD_OF_FOUND_GOALS)) {
                    ofFoundGoals.add(fitnessOf(outcome, g));
                }
            }
            all.add(new Ranked(one, fitness, ofFoundGoals, all.size()));
        }
        return all;
    }

    private boolean beats(Ranked one, Ranked other) {
        if (breaks(Fault.FIRST_OF_THE_LIST_BEATS_NONE) && one.before == 0) {
            return false;
        }
        if (breaks(Fault.BEATEN_THOUGH_NEARER_ONCE)) {
            return one.nearerThan(other) > other.nearerThan(one);
        }
        boolean isNearer = one.nearerThan(other) > 0 || breaks(Fault.BEATEN_BY_ITS_EQUAL) && one.before < other.before;
        return isNearer && other.nearerThan(one) == 0;
    }

    private List<Ranked> preferred(List<Ranked> all, int activeCount) {
        List<Ranked> front = new ArrayList<>();
        for (int n = 0; n < activeCount; n++) {
            int goal = n;
            Ranked best = least(all, one -> one.fitness.get(goal),
                    one -> breaks(Fault.PREFERRED_WITHOUT_STEPS) ? 0 : one.steps.size(),
                    one -> breaks(Fault.PREFERRED_IS_THE_LATEST) ? -one.before : one.before);
            if (!front.contains(best)) {
                front.add(best);
            }
        }
        return front;
    }

    private List<Ranked> sorted(List<Ranked> front, List<Ranked> all) {
        List<Ranked> rest = new ArrayList<>(front);
        List<Ranked> sorted = new ArrayList<>();
        ToLongFunction<Ranked> crowd = one -> crowdOf(one, breaks(Fault.CROWD_OF_ALL_FRONTS) ? all : front);
        ToLongFunction<Ranked> steps = one -> breaks(Fault.STEPS_NOT_LOOKED_AT) ? 0 : one.steps.size();
        ToLongFunction<Ranked> before = one -> breaks(Fault.LATER_BEFORE_EARLIER) ? -one.before : one.before;
        while (!rest.isEmpty()) {
            Ranked next = breaks(Fault.STEPS_BEFORE_CROWD)
                    ? least(rest, steps, crowd, before) : least(rest, crowd, steps, before);
            rest.remove(next);
            sorted.add(next);
        }
        return sorted;
    }

    private long crowdOf(Ranked one, List<Ranked> others) {
        if (breaks(Fault.CROWD_NOT_LOOKED_AT)) {
            return 0;
        }
        if (breaks(Fault.CROWD_OF_SEVERAL_CASES)) {
            return IntStream.range(0, one.fitness.size())
                    .filter(n -> others.stream().anyMatch(other -> other.fitness.get(n) < one.fitness.get(n)))
                    .count();
        }
        return others.stream()
                .mapToLong(other -> other.nearerThan(one) + Ranked.smaller(other.ofFoundGoals, one.ofFoundGoals))
                .max().orElse(0);
    }

    private static Ranked least(List<Ranked> all, ToLongFunction<Ranked> a, ToLongFunction<Ranked> b,
            ToLongFunction<Ranked> c) {
        return all.stream()
                .min(Comparator.comparingLong(a).thenComparingLong(b).thenComparingLong(c))
                .orElseThrow();
    }

    // ---- the suite and the names of cases ----

    private List<Step> cut(List<Step> whole, int g) {
        List<Step> left = new ArrayList<>(whole);
        for (int n = whole.size() - 1; n >= 0 && !breaks(Fault.NOTHING_CUT); n--) {
            Step step = whole.get(breaks(Fault.CUT_FROM_THE_FIRST) ? whole.size() - 1 - n : n);
            List<Step> referring = breaks(Fault.TAKEN_OUT_REFERS_STILL) ? whole : left;
            boolean isReferredTo = referring.stream().anyMatch(other -> other.ref == step);
            if (left.size() == 1 || isReferredTo) {
                runs += left.size() == 1 && breaks(Fault.ONLY_STEP_TRIED) ? 1 : 0;
                runs += left.size() > 1 && breaks(Fault.REFERRED_TO_TRIED) ? 1 : 0;
                continue;
            }
            List<Step> trial = new ArrayList<>(left);
            trial.remove(step);
            tryOut(trial);
            boolean losesGoals = breaks(Fault.CUT_FOR_ALL_ITS_GOALS) && (coveredBy(left) & ~coveredBy(trial)) != 0;
            if (outcomeOf(trial).covers(g) && !losesGoals) {
                left = trial;
            }
        }
        return left;
    }

    private void tryOut(List<Step> trial) {
        if (breaks(Fault.TRIAL_ARCHIVED)) {
            runAndArchive(trial);
        } else {
            runs++;
        }
    }

    private List<Step> named(int which) {
        if (which == -1) {
            return latest;
        }
        List<List<Step>> row = which < 100 ? population : which < 200 ? archive : suite;
        int number = which < 100 ? which : which < 200 ? which - 100 : which - 200;
        return number < 0 || number >= row.size() ? null : row.get(number);
    }
}
