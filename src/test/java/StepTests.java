/** Promises 13 to 15: the told steps. */
public final class StepTests {
    private final Checks checks = new Checks("StepTests");

    public static void main(String[] args) {
        new StepTests().run();
    }

    private void run() {
        tell();
        tellRefusals();
        clear();
        step();
        checks.end();
    }

    private void dueStep(BarForger x, int step, int... wants) {
        for (int what = 0; what < wants.length; what++) {
            checks.due("step(" + step + ", " + what + ")", x.step(step, what), wants[what]);
        }
    }

    private void tell() {
        BarForger x = new BarForger();
        checks.due("the first step", x.tellStep(5, 100, 0, 9999), 0);
        checks.due("the second step", x.tellStep(100, 5, 9, 0), 1);
        dueStep(x, 0, 5, 100, 0, 9999);
        dueStep(x, 1, 100, 5, 9, 0);
        checks.due("steps", x.value(9), 2);
        checks.due("undo of tellStep", x.undo(), 1);
        checks.due("steps", x.value(9), 1);
        checks.index("an undone step", () -> x.step(1, 0));
        dueStep(x, 0, 5, 100, 0, 9999);
    }

    private void tellRefusals() {
        BarForger x = new BarForger();
        int[][] wrong = {{4, 5, 0, 0}, {101, 5, 0, 0}, {5, 4, 0, 0}, {5, 101, 0, 0}, {5, 5, -1, 0}, {5, 5, 10, 0},
            {5, 5, 0, -1}, {5, 5, 0, 10000}, {Integer.MIN_VALUE, 5, 0, 0}, {5, Integer.MAX_VALUE, 0, 0},
            {5, 5, Integer.MIN_VALUE, 0}, {5, 5, 0, Integer.MAX_VALUE}};
        for (int[] w : wrong) {
            checks.unchanged("a wrong step", x, IllegalArgumentException.class,
                    () -> x.tellStep(w[0], w[1], w[2], w[3]));
        }
        for (int step = 0; step < 8; step++) {
            checks.due("a step more", x.tellStep(10 + step, 20 + step, step, 30 + step), step);
        }
        checks.unchanged("a ninth step", x, IllegalStateException.class, () -> x.tellStep(5, 5, 0, 0));
        for (int[] w : wrong) {
            checks.unchanged("a wrong ninth step", x, IllegalArgumentException.class,
                    () -> x.tellStep(w[0], w[1], w[2], w[3]));
        }
        dueStep(x, 7, 17, 27, 7, 37);
    }

    private void clear() {
        BarForger x = new BarForger();
        checks.due("nothing to clear", x.clearSteps(), 0);
        checks.due("undo of clearing nothing", x.undo(), 0);
        x.tellStep(10, 11, 1, 12);
        x.tellStep(20, 21, 2, 22);
        checks.due("clearSteps", x.clearSteps(), 2);
        checks.due("no steps", x.value(9), 0);
        checks.index("a cleared step", () -> x.step(0, 0));
        checks.due("a first step again", x.tellStep(30, 31, 3, 32), 0);
        x.undo();
        checks.due("undo of clearSteps", x.undo(), 2);
        dueStep(x, 0, 10, 11, 1, 12);
        dueStep(x, 1, 20, 21, 2, 22);
    }

    private void step() {
        BarForger x = new BarForger();
        x.tellStep(10, 11, 1, 12);
        x.tellStep(20, 21, 2, 22);
        long before = x.digest();
        dueStep(x, 0, 10, 11, 1, 12);
        dueStep(x, 1, 20, 21, 2, 22);
        checks.due("step changes nothing", x.digest(), before);
        for (int step : new int[] {-1, 2, 8, Integer.MIN_VALUE, Integer.MAX_VALUE}) {
            checks.unchanged("no such step", x, IndexOutOfBoundsException.class, () -> x.step(step, 0));
            checks.unchanged("no such step, wrong what", x, IndexOutOfBoundsException.class, () -> x.step(step, 4));
        }
        for (int what : new int[] {-1, 4, Integer.MIN_VALUE, Integer.MAX_VALUE}) {
            checks.unchanged("a wrong what", x, IllegalArgumentException.class, () -> x.step(1, what));
        }
    }
}
