/** Random methods and calls, each answer held against that of the model. */
final class ModelTest {
    private static final int OBJECTS = 2000;
    /** An object is used for at most 512 calls, and the last row of asks begins before this one. */
    private static final int CALLS = 500;

    private final Checks checks = new Checks();
    private long bits;
    private BranchGoals object;
    private Model model;
    private String label;
    private int calls;

    private ModelTest() {
    }

    public static void main(String[] args) {
        ModelTest test = new ModelTest();
        for (int n = 0; n < OBJECTS && test.checks.wrong() == 0; n++) {
            test.compareOnce(n);
        }
        test.checks.end();
    }

    private int any(int n) {
        bits = bits * 6364136223846793005L + 1442695040888963407L;
        return (int) ((bits >>> 33) % n);
    }

    private int anyOf(int... numbers) {
        return numbers[any(numbers.length)];
    }

    private int anyNumber() {
        return any(12) == 0
                ? anyOf(Integer.MIN_VALUE, Integer.MAX_VALUE, Integer.MIN_VALUE + 1, 65536, -65536)
                : any(21) - 10;
    }

    private void compareOnce(int n) {
        bits = n * 1000003L + 17;
        int seed = any(4) == 0 ? anyNumber() : n * 7919;
        label = "object " + n;
        object = new BranchGoals(seed);
        model = new Model(seed);
        calls = 0;
        if (any(10) == 0) {
            askAll();
            call();
        }
        writeMethods();
        if (any(3) == 0) {
            putSteps();
        }
        answer("start()", object.start(), model.start());
        askDependence();
        while (calls < CALLS) {
            call();
        }
    }

    private void answer(String call, long got, long want) {
        calls++;
        checks.due(label + " call " + calls + ": " + call, got, want);
    }

    private void answer(String call, boolean got, boolean want) {
        answer(call, got ? 1 : 0, want ? 1 : 0);
    }

    private void writeMethods() {
        if (any(8) == 0) {
            writeMostGoals();
            return;
        }
        for (int m = 0; m < 2; m++) {
            int lines = any(5) == 0 ? any(12) : 3 + any(8);
            int flavour = any(3);
            for (int i = 0; i < lines; i++) {
                int op = flavour == 0 ? any(10) : flavour == 1 ? anyOf(0, 1, 2, 5, 6, 5, 6, 8) : anyOf(0, 1, 3, 4, 5, 6, 6, 7, 8, 9);
                boolean isJump = op >= 5 && op <= 7;
                boolean isForward = isJump && any(4) != 0;
                int target = isForward ? Math.min(10, i + 1 + any(4)) : any(11);
                int c = isJump ? target : op == 0 ? anyNumber() : any(8);
                addLine(m, op, any(8), any(8), c);
                if (any(40) == 0) {
                    addLine(any(4) - 1, any(12) - 1, any(10) - 1, any(10) - 1, any(13) - 1);
                }
            }
        }
    }

    /** Both methods with six branches, as many as a watched one can have: 24 goals. */
    private void writeMostGoals() {
        for (int m = 0; m < 2; m++) {
            int other = any(8);
            for (int i = 0; i < 8; i++) {
                boolean isOther = i == other || i == (other + 3) % 8;
                int op = isOther ? anyOf(0, 1, 2, 8, 7) : anyOf(5, 6);
                int c = op == 0 ? anyNumber() : op < 5 ? any(8) : Math.min(10, i + 1 + any(4));
                addLine(m, op, any(8), any(8), c);
            }
        }
    }

    private void addLine(int m, int op, int a, int b, int c) {
        String call = "line(" + m + ", " + op + ", " + a + ", " + b + ", " + c + ")";
        answer(call, object.line(m, op, a, b, c), model.line(m, op, a, b, c));
    }

    private void putSteps() {
        int count = any(8);
        for (int i = 0; i < count; i++) {
            int kind = any(12) == 0 ? any(10) - 1 : anyOf(0, 1, 0, 1, 4, 5, 6, 7);
            int x = anyNumber();
            int y = anyNumber();
            int ref = any(3) == 0 ? -1 : any(i + 3) - 2;
            String call = "put(" + kind + ", " + x + ", " + y + ", " + ref + ")";
            answer(call, object.put(kind, x, y, ref), model.put(kind, x, y, ref));
        }
    }

    private void askDependence() {
        answer("watched(0)", object.watched(0), model.watched(0));
        answer("watched(1)", object.watched(1), model.watched(1));
        for (int n = 0; n < 60 && model.goals() > 0; n++) {
            int g = any(20) == 0 ? any(26) - 1 : any(model.goals());
            int h = any(20) == 0 ? any(26) - 1 : any(model.goals());
            answer("depends(" + g + ", " + h + ")", object.depends(g, h), model.depends(g, h));
        }
    }

    private void call() {
        int k = any(12);
        if (k < 5) {
            int count = 1 + any(6);
            for (int i = 0; i < count; i++) {
                answer("evolve()", object.evolve(), model.evolve());
            }
        } else if (k == 5) {
            putSteps();
            answer("run()", object.run(), model.run());
        } else if (k == 6) {
            answer("finish()", object.finish(), model.finish());
        } else if (k == 7) {
            askAll();
        } else {
            askOfCase(anyWhich());
        }
    }

    private int anyWhich() {
        int kind = any(10);
        if (kind < 5) {
            return any(7) - 1;
        }
        if (kind < 7) {
            return 99 + any(26);
        }
        return kind < 9 ? 199 + any(6) : anyOf(-2, Integer.MIN_VALUE, Integer.MAX_VALUE, 7, 150, 224, 300);
    }

    private void askAll() {
        answer("found()", object.found(), model.found());
        answer("active()", object.active(), model.active());
        answer("reported()", object.reported(), model.reported());
        answer("runs()", object.runs(), model.runs);
        answer("state()", object.state(), model.state);
        int m = any(4) - 1;
        answer("watched(" + m + ")", object.watched(m), model.watched(m));
        answer("depends(0, 1)", object.depends(0, 1), model.depends(0, 1));
    }

    private void askOfCase(int which) {
        answer("length(" + which + ")", object.length(which), model.length(which));
        answer("covers(" + which + ")", object.covers(which), model.covers(which));
        for (int n = 0; n < 3; n++) {
            int j = any(9) - 1;
            int part = any(6) - 1;
            int g = any(26) - 1;
            String ask = "step(" + which + ", " + j + ", " + part + ")";
            answer(ask, object.step(which, j, part), model.step(which, j, part));
            answer("fitness(" + which + ", " + g + ")", object.fitness(which, g), model.fitness(which, g));
            answer("result(" + which + ", " + j + ")", object.result(which, j), model.result(which, j));
        }
    }
}
