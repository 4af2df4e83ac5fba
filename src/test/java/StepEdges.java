/** Edges of the sentences of promises 13 to 15. */
final class StepEdges {
    private final Edges edges;

    StepEdges(Edges edges) {
        this.edges = edges;
    }

    void run() {
        tellRanges();
        tellRefused();
        clear();
        stepArguments();
        stepAnswers();
    }

    private static Edges.Setup told(int steps) {
        return x -> {
            for (int step = 0; step < steps; step++) {
                x.tellStep(10 + step, 20 + step, step, 30 + step);
            }
        };
    }

    private void tellRanges() {
        edges.says("Promise 13", "width: 5 to 100");
        edges.range(Edges.BUSY, 5, 100, (x, width) -> x.tellStep(width, 9, 0, 0) + x.step(2, 0), width -> 2 + width);
        edges.says("Promise 13", "height: 5 to 100");
        edges.range(Edges.BUSY, 5, 100, (x, height) -> x.tellStep(9, height, 0, 0) + x.step(2, 1),
                height -> 2 + height);
        edges.says("Promise 13", "tolerance: 0 to 9");
        edges.range(Edges.BUSY, 0, 9, (x, tolerance) -> x.tellStep(9, 9, tolerance, 0) + x.step(2, 2), n -> 2 + n);
        edges.says("Promise 13", "length: 0 to 9999");
        edges.range(Edges.BUSY, 0, 9999, (x, length) -> x.tellStep(9, 9, 0, length) + x.step(2, 3), n -> 2 + n);
    }

    private void tellRefused() {
        edges.says("Promise 13", "Throws IllegalArgumentException if an argument is out of range");
        edges.refused(Edges.NEW, x -> x.tellStep(4, 101, -1, 10000), Edges.ARGUMENT);
        edges.outside(told(8), 5, 100, (x, width) -> x.tellStep(width, 9, 0, 0), Edges.ARGUMENT);
        edges.outside(told(8), 5, 100, (x, height) -> x.tellStep(9, height, 0, 0), Edges.ARGUMENT);
        edges.outside(told(8), 0, 9, (x, tolerance) -> x.tellStep(9, 9, tolerance, 0), Edges.ARGUMENT);
        edges.outside(told(8), 0, 9999, (x, length) -> x.tellStep(9, 9, 0, length), Edges.ARGUMENT);
        edges.says("Promise 13", "Throws IllegalStateException if there are 8 steps");
        edges.due(told(6), x -> x.tellStep(9, 9, 0, 0), 6);
        edges.due(told(7), x -> x.tellStep(9, 9, 0, 0), 7);
        edges.refused(told(8), x -> x.tellStep(9, 9, 0, 0), Edges.STATE);
        edges.due(Edges.all(told(8), BarForger::undo), x -> x.tellStep(9, 9, 0, 0), 7);
        edges.due(Edges.all(told(8), BarForger::clearSteps), x -> x.tellStep(9, 9, 0, 0), 0);
        edges.says("Promise 13", "Returns the number of the step.");
        for (int steps = 0; steps < 8; steps++) {
            edges.due(told(steps), x -> x.tellStep(9, 9, 0, 0), steps);
        }
        edges.says("Promise 13", "Tells a step, behind the others. Undoable.");
        edges.due(told(7), x -> x.tellStep(9, 8, 7, 6) * 0 + x.step(7, 0) + x.step(6, 0), 9 + 16);
        edges.undoable(Edges.CALM, x -> x.tellStep(9, 8, 7, 6));
        edges.undoable(Edges.NEW, x -> x.tellStep(9, 8, 7, 6));
    }

    private void clear() {
        edges.says("Promise 14", "Returns the number of steps that there were.");
        edges.due(Edges.NEW, BarForger::clearSteps, 0);
        edges.due(told(1), BarForger::clearSteps, 1);
        edges.due(told(7), BarForger::clearSteps, 7);
        edges.due(told(8), BarForger::clearSteps, 8);
        edges.due(told(8), x -> x.clearSteps() * 0 + x.clearSteps(), 0);
        edges.says("Promise 14", "Forgets all steps. Undoable.");
        edges.due(told(8), x -> x.clearSteps() * 0 + x.value(9), 0);
        edges.refused(Edges.all(told(8), BarForger::clearSteps), x -> x.step(0, 0), Edges.INDEX);
        edges.due(told(8), x -> x.clearSteps() * 0 + x.undo() * 0 + x.step(7, 3), 37);
        edges.undoable(Edges.CALM, BarForger::clearSteps);
        edges.undoable(Edges.NEW, BarForger::clearSteps);
    }

    private void stepArguments() {
        edges.says("Promise 15", "step: number of a step");
        edges.indices(told(1), 1, (x, step) -> x.step(step, 0), step -> 10);
        edges.indices(told(2), 2, (x, step) -> x.step(step, 0), step -> 10 + step);
        edges.indices(told(8), 8, (x, step) -> x.step(step, 0), step -> 10 + step);
        edges.says("Promise 15", "what: 0 its width, 1 its height, 2 its tolerance, 3 its least length");
        int[] answers = {17, 27, 7, 37};
        edges.range(told(8), 0, 3, (x, what) -> x.step(7, what), what -> answers[what]);
        edges.says("Promise 15", "Throws IndexOutOfBoundsException if there is no such step");
        edges.outside(Edges.NEW, 0, -1, (x, step) -> x.step(step, 0), Edges.INDEX);
        edges.outside(Edges.NEW, 0, -1, (x, step) -> x.step(step, 4), Edges.INDEX);
        edges.outside(told(8), 0, 7, (x, step) -> x.step(step, -1), Edges.INDEX);
        edges.refused(Edges.BUSY, x -> x.step(2, 0), Edges.INDEX);
        edges.says("Promise 15", "Throws IllegalArgumentException if what is out of range");
        edges.outside(Edges.BUSY, 0, 3, (x, what) -> x.step(1, what), Edges.ARGUMENT);
    }

    private void stepAnswers() {
        edges.says("Promise 15", "Returns that value.");
        edges.due(Edges.all(Edges.NEW, x -> x.tellStep(5, 100, 0, 9999)), x -> x.step(0, 1) + x.step(0, 3), 10099);
        edges.due(Edges.all(Edges.NEW, x -> x.tellStep(100, 5, 9, 0)), x -> x.step(0, 0) + x.step(0, 2), 109);
        edges.says("Promise 15", "Returns something about a step.");
        edges.question(Edges.BUSY, x -> x.step(1, 3));
    }
}
