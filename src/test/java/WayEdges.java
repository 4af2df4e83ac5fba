/** Edges of the sentences of promises 16 to 21. */
final class WayEdges {
    private interface Question {
        Object on(BarForger x, int part, int width, int height, int tolerance);
    }

    private final Edges edges;

    WayEdges(Edges edges) {
        this.edges = edges;
    }

    void run() {
        arguments("Promise 16", BarForger::way, 0);
        way();
        arguments("Promise 17", (x, part, width, height, tolerance) -> x.blowOf(part, width, height, tolerance, 0), -1);
        blowOf();
        arguments("Promise 18", BarForger::heatsTo, 0);
        heatsTo();
        heatsToSteps();
        heatsToStepsAsTheyBecome();
        lengthAs();
        kept();
    }

    /** The arguments that the three questions have alike; there is what they answer for a part that fits already. */
    private void arguments(String promise, Question question, int there) {
        edges.says(promise, "part: number of a part");
        edges.indices(Edges.BUSY, 3, (x, part) -> question.on(x, part, 20, 20, 0), part -> there);
        edges.indices(Edges.NEW, 1, (x, part) -> question.on(x, part, 40, 40, 0), part -> there);
        edges.says(promise, "width: 5 to 100");
        for (int width : new int[] {5, 6, 99, 100}) {
            Edges.Setup setup = Edges.all(Edges.BUSY, x -> x.take(width, 40, 10000));
            edges.due(setup, x -> question.on(x, 0, width, 40, 0), there);
            edges.outside(setup, 5, 100, (x, wrong) -> question.on(x, 0, wrong, 40, 9), Edges.ARGUMENT);
        }
        edges.says(promise, "height: 5 to 100");
        for (int height : new int[] {5, 6, 99, 100}) {
            Edges.Setup setup = Edges.all(Edges.BUSY, x -> x.take(40, height, 10000));
            edges.due(setup, x -> question.on(x, 0, 40, height, 0), there);
            edges.outside(setup, 5, 100, (x, wrong) -> question.on(x, 0, 40, wrong, 9), Edges.ARGUMENT);
        }
        edges.says(promise, "tolerance: 0 to 9");
        edges.range(Edges.BUSY, 0, 9, (x, tolerance) -> question.on(x, 0, 20, 20, tolerance), tolerance -> there);
        edges.says(promise, "Throws IndexOutOfBoundsException if there is no such part");
        edges.outside(Edges.BUSY, 0, 2, (x, part) -> question.on(x, part, 4, 101, 10), Edges.INDEX);
        edges.says(promise, "Throws IllegalArgumentException if width, height or tolerance is out of range");
        edges.refused(Edges.BUSY, x -> question.on(x, 2, 4, 101, -1), Edges.ARGUMENT);
        edges.refused(Edges.NEW, x -> question.on(x, 0, 100, 5, 10), Edges.ARGUMENT);
    }

    private static Edges.Setup small() {
        return Edges.taken(12, 12, 5300);
    }

    private void way() {
        edges.says("Promise 16", "Returns their number; NONE if there is no way of at most 60 blows.");
        edges.due(small(), x -> x.way(0, 12, 12, 0), 0);
        edges.due(small(), x -> x.way(0, 13, 13, 0), 1);
        edges.due(small(), x -> x.way(0, 71, 71, 0), 59);
        edges.due(small(), x -> x.way(0, 72, 72, 0), 60);
        edges.due(small(), x -> x.way(0, 73, 73, 0), BarForger.NONE);
        edges.due(Edges.NEW, x -> x.way(0, 5, 5, 0), 47);
        edges.due(Edges.NEW, x -> x.way(0, 100, 5, 0), BarForger.NONE);
        edges.due(Edges.NEW, x -> x.way(0, 100, 100, 0), BarForger.NONE);
        edges.due(Edges.taken(5, 5, 1), x -> x.way(0, 6, 6, 0), BarForger.NONE);
        edges.due(Edges.taken(100, 100, 9000000), x -> x.way(0, 99, 99, 0), BarForger.NONE);
        edges.says("Promise 16", "Returns the number of blows of the shortest way to a wish.");
        edges.question(Edges.BUSY, x -> x.way(2, 9, 9, 0));
        edges.question(small(), x -> x.way(0, 73, 73, 0));
    }

    private void blowOf() {
        edges.says("Promise 17", "index: from 0");
        edges.due(Edges.NEW, x -> x.blowOf(0, 30, 30, 2, 0), 0);
        edges.due(Edges.NEW, x -> x.blowOf(0, 30, 30, 2, 7), 1);
        edges.due(Edges.NEW, x -> x.blowOf(0, 30, 30, 2, 8), BarForger.NONE);
        edges.due(Edges.NEW, x -> x.blowOf(0, 30, 30, 2, Integer.MAX_VALUE), BarForger.NONE);
        edges.refused(Edges.NEW, x -> x.blowOf(0, 30, 30, 2, -1), Edges.INDEX);
        edges.refused(Edges.BUSY, x -> x.blowOf(2, 20, 20, 2, Integer.MIN_VALUE), Edges.INDEX);
        edges.says("Promise 17", "Returns 0 draw, 1 draw turned, 2 upset; NONE if there is no way, or it has not so "
                + "many blows.");
        edges.due(small(), x -> x.blowOf(0, 72, 72, 0, 58), 2);
        edges.due(small(), x -> x.blowOf(0, 72, 72, 0, 59), 2);
        edges.due(small(), x -> x.blowOf(0, 72, 72, 0, 60), BarForger.NONE);
        edges.due(small(), x -> x.blowOf(0, 73, 73, 0, 0), BarForger.NONE);
        edges.due(small(), x -> x.blowOf(0, 73, 73, 0, 59), BarForger.NONE);
        edges.due(small(), x -> x.way(0, 72, 72, 0) * 0 + x.blowOf(0, 73, 73, 0, 5), BarForger.NONE);
        edges.due(small(), x -> x.way(0, 72, 72, 0) * 0 + x.blowOf(0, 12, 12, 0, 0), BarForger.NONE);
        edges.due(small(), x -> x.way(0, 72, 72, 0) * 0 + x.blowOf(0, 13, 13, 0, 1), BarForger.NONE);
        edges.due(small(), x -> x.way(0, 72, 72, 0) * 0 + x.blowOf(0, 12, 11, 0, 0), 0);
        edges.due(small(), x -> x.way(0, 72, 72, 0) * 0 + x.blowOf(0, 11, 12, 0, 0), 1);
        edges.says("Promise 17", "Throws IndexOutOfBoundsException if there is no such part, or index is negative");
        edges.refused(Edges.BUSY, x -> x.blowOf(3, 4, 101, 10, -1), Edges.INDEX);
        edges.refused(Edges.BUSY, x -> x.blowOf(3, 20, 20, 0, 0), Edges.INDEX);
        edges.refused(Edges.BUSY, x -> x.blowOf(2, 4, 20, 0, -1), Edges.INDEX);
        edges.refused(Edges.BUSY, x -> x.blowOf(2, 20, 101, 0, -1), Edges.INDEX);
        edges.refused(Edges.BUSY, x -> x.blowOf(2, 20, 20, 10, -1), Edges.INDEX);
        edges.refused(Edges.BUSY, x -> x.blowOf(2, 20, 20, 10, Integer.MAX_VALUE), Edges.ARGUMENT);
        edges.says("Promise 17", "Returns a blow of the shortest way to a wish.");
        edges.question(Edges.BUSY, x -> x.blowOf(2, 9, 9, 0, 3));
        edges.question(small(), x -> x.blowOf(0, 73, 73, 0, 0));
    }

    private void heatsTo() {
        edges.says("Promise 18", "Returns the number of heats; NONE if there is no way.");
        edges.due(small(), x -> x.heatsTo(0, 46, 46, 0), 0);
        edges.due(small(), x -> x.heatsTo(0, 47, 47, 0), 1);
        edges.due(small(), x -> x.heatsTo(0, 72, 72, 0), 1);
        edges.due(small(), x -> x.heatsTo(0, 73, 73, 0), BarForger.NONE);
        edges.due(Edges.NEW, x -> x.heatsTo(0, 100, 5, 0), BarForger.NONE);
        edges.due(Edges.all(small(), x -> x.pause(60)), x -> x.heatsTo(0, 12, 12, 0), 0);
        edges.due(Edges.all(small(), x -> x.pause(60)), x -> x.heatsTo(0, 73, 73, 0), BarForger.NONE);
        edges.due(Edges.all(small(), BarForger::heat, BarForger::heat), x -> x.heatsTo(0, 12, 12, 0), 0);
        edges.says("Promise 18", "Tells how many heats forging a part to a wish would need now.");
        edges.question(Edges.BUSY, x -> x.heatsTo(2, 9, 9, 0));
        edges.question(Edges.all(Edges.BUSY, x -> x.pause(60)), x -> x.heatsTo(1, 9, 9, 0));
        edges.question(small(), x -> x.heatsTo(0, 73, 73, 0));
    }

    private static Edges.Setup told(int width, int height) {
        return x -> x.tellStep(width, height, 0, 9999);
    }

    private void heatsToSteps() {
        edges.says("Promise 19", "Returns the number of heats; NONE if there is no way for one of them.");
        edges.due(Edges.NEW, BarForger::heatsToSteps, 0);
        edges.due(Edges.all(small(), told(46, 46)), BarForger::heatsToSteps, 0);
        edges.due(Edges.all(small(), told(47, 47)), BarForger::heatsToSteps, 1);
        edges.due(Edges.all(small(), told(72, 72)), BarForger::heatsToSteps, 1);
        edges.due(Edges.all(small(), told(73, 73)), BarForger::heatsToSteps, BarForger.NONE);
        edges.due(Edges.all(Edges.BUSY, told(20, 20)), BarForger::heatsToSteps, 0);
        edges.due(Edges.all(Edges.BUSY, told(100, 5)), BarForger::heatsToSteps, BarForger.NONE);
        edges.says("Promise 19", "one after the other, those first that have the lowest numbers (parts without a "
                + "step are left out)");
        Edges.Setup first = told(41, 36);
        edges.due(Edges.all(first, told(100, 5)), BarForger::heatsToSteps, 0);
        Edges.Setup two = x -> x.cut(0, 50);
        edges.due(Edges.all(two, first), BarForger::heatsToSteps, 0);
        edges.due(Edges.all(two, Edges.all(first, told(100, 5))), BarForger::heatsToSteps, BarForger.NONE);
        edges.due(Edges.all(two, Edges.all(told(100, 5), first)), BarForger::heatsToSteps, BarForger.NONE);
        edges.due(Edges.all(two, Edges.all(first, Edges.all(first, told(100, 5)))), BarForger::heatsToSteps, 0);
        edges.question(Edges.all(Edges.BUSY, x -> x.pause(60)), BarForger::heatsToSteps);
        edges.question(Edges.all(two, Edges.all(first, told(100, 5))), BarForger::heatsToSteps);
    }

    /** Part 0 needs one blow; part 1 needs 40 upsets, of which the last is possible from a volume of 3481 on. */
    private static Edges.Setup rowOfTwo(int second, int minutes) {
        return x -> {
            x.take(20, 20, 4000 + second);
            x.cut(0, 10);
            x.tellStep(20, 18, 0, 0);
            x.tellStep(60, 60, 0, 0);
            x.pause(minutes);
        };
    }

    private void heatsToStepsAsTheyBecome() {
        edges.says("Promise 19", "as if that were carried out, with warmth and volumes as they become.");
        edges.due(rowOfTwo(3480, 20), BarForger::heatsToSteps, BarForger.NONE);
        edges.due(rowOfTwo(3481, 20), BarForger::heatsToSteps, 2);
        edges.due(rowOfTwo(3481, 21), BarForger::heatsToSteps, BarForger.NONE);
        edges.due(rowOfTwo(3515, 21), BarForger::heatsToSteps, BarForger.NONE);
        edges.due(rowOfTwo(3516, 21), BarForger::heatsToSteps, 2);
        edges.due(rowOfTwo(3516, 20), BarForger::heatsToSteps, 2);
        edges.due(rowOfTwo(3516, 1), BarForger::heatsToSteps, 1);
        Edges.Setup alike = Edges.all(x -> x.tellStep(41, 36, 0, 0), x -> x.tellStep(41, 36, 0, 0));
        edges.due(Edges.all(alike, x -> x.cut(0, 9), x -> x.pause(19)), BarForger::heatsToSteps, 0);
        edges.due(Edges.all(alike, x -> x.cut(0, 9), x -> x.pause(20)), BarForger::heatsToSteps, 1);
        edges.due(Edges.all(alike, x -> x.cut(0, 9), x -> x.pause(21)), BarForger::heatsToSteps, 1);
    }

    private void lengthAs() {
        edges.says("Promise 20", "width: 5 to 100");
        edges.range(Edges.BUSY, 5, 100, (x, width) -> x.lengthAs(width, 7), width -> 35844 / (width * 7));
        edges.says("Promise 20", "height: 5 to 100");
        edges.range(Edges.BUSY, 5, 100, (x, height) -> x.lengthAs(7, height), height -> 35844 / (height * 7));
        edges.says("Promise 20", "Throws IllegalArgumentException if width or height is out of range");
        edges.refused(Edges.NEW, x -> x.lengthAs(4, 101), Edges.ARGUMENT);
        edges.refused(Edges.NEW, x -> x.lengthAs(0, 0), Edges.ARGUMENT);
        edges.says("Promise 20", "Returns the volume of all parts / (width * height).");
        edges.due(Edges.taken(100, 100, 9000000), x -> x.lengthAs(5, 5), 360000);
        edges.due(Edges.taken(100, 100, 9000000), x -> x.lengthAs(100, 100), 900);
        edges.due(Edges.taken(100, 100, 24), x -> x.lengthAs(5, 5), 0);
        edges.due(Edges.taken(100, 100, 25), x -> x.lengthAs(5, 5), 1);
        edges.due(Edges.taken(5, 5, 9999), x -> x.lengthAs(100, 100), 0);
        edges.due(Edges.taken(5, 5, 10000), x -> x.lengthAs(100, 100), 1);
        edges.due(Edges.all(Edges.BUSY, BarForger::crop), x -> x.lengthAs(5, 5), 19844 / 25);
        edges.says("Promise 20", "Finds the length of the whole bar if its volume were that of all parts");
        edges.due(Edges.BUSY, x -> x.lengthAs(20, 20), 89);
        edges.due(Edges.all(Edges.taken(10, 10, 30150), x -> x.cut(0, 150), BarForger::heat),
                x -> x.lengthAs(10, 10), 298);
        edges.question(Edges.BUSY, x -> x.lengthAs(9, 9));
    }

    private void kept() {
        edges.says("Promise 21", "Returns the volume of all parts, converted to double, divided by the volume of the "
                + "bar as it was taken, converted to double.");
        edges.due(Edges.NEW, BarForger::kept, 1.0);
        edges.due(Edges.BUSY, BarForger::kept, 35844.0 / 48000.0);
        edges.due(Edges.all(Edges.BUSY, x -> x.take(5, 5, 1)), BarForger::kept, 1.0);
        edges.due(Edges.all(Edges.taken(5, 5, 1), BarForger::heat), BarForger::kept, 1.0);
        edges.due(Edges.all(Edges.taken(5, 5, 100), BarForger::heat), BarForger::kept, 0.99);
        edges.due(Edges.all(Edges.taken(5, 5, 9000000), BarForger::heat), BarForger::kept, 0.99);
        edges.due(Edges.all(Edges.taken(5, 5, 9000000), x -> x.cut(0, 1), BarForger::crop),
                BarForger::kept, 25.0 / 9000000.0);
        edges.due(Edges.all(Edges.taken(5, 5, 9000000), x -> x.cut(0, 1)), BarForger::kept, 1.0);
        edges.due(Edges.all(Edges.taken(7, 7, 300), x -> x.setScale(7), BarForger::heat),
                BarForger::kept, 298.0 / 300.0);
        edges.due(Edges.all(Edges.BUSY, x -> x.take(5, 5, 1), BarForger::undo), BarForger::kept, 35844.0 / 48000.0);
        edges.says("Promise 21", "Returns the share of the volume that is left.");
        edges.question(Edges.BUSY, BarForger::kept);
    }
}
