/** Sentences that a bar of eight unlike parts and eight unlike steps shows best: what belongs to which, and is kept. */
final class UnlikeEdges {
    private static final int[][] PARTS = {
        {30, 18, 5898, 10, 1, 1, 1, 1, 0},
        {25, 21, 6488, 12, 2, 1, 1, 1, 0},
        {30, 16, 7078, 14, 3, 1, 1, 1, 0},
        {21, 21, 7668, 17, 4, 1, 1, 1, 0},
        {30, 14, 8258, 19, 5, 1, 1, 1, 0},
        {18, 21, 8847, 23, 6, 1, 1, 1, 0},
        {30, 12, 9437, 26, 7, 1, 1, 1, 0},
        {16, 21, 58391, 173, 8, 1, 1, 0, 0},
    };
    private static final int[] VALUES = {8, 958, 17, 1, 36, 112065, 1935, 6599, 294, 8, 0, 10};

    private final Edges edges;

    UnlikeEdges(Edges edges) {
        this.edges = edges;
    }

    void run() {
        partsAndSteps();
        saved();
        refused();
        asked();
        moved();
    }

    private void partsAndSteps() {
        edges.says("Promise 11", "Returns something about a part.");
        for (int part = 0; part < PARTS.length; part++) {
            for (int what = 0; what < PARTS[part].length; what++) {
                int at = part;
                int which = what;
                edges.due(Edges.UNLIKE, x -> x.part(at, which), PARTS[at][which]);
            }
        }
        edges.says("Promise 12", "Returns a number.");
        for (int what = 0; what < VALUES.length; what++) {
            int which = what;
            edges.due(Edges.UNLIKE, x -> x.value(which), VALUES[which]);
        }
        edges.says("Promise 15", "Returns something about a step.");
        for (int step = 0; step < 8; step++) {
            int at = step;
            edges.due(Edges.UNLIKE, x -> x.step(at, 0), 24 - at);
            edges.due(Edges.UNLIKE, x -> x.step(at, 1), 19 - at);
            edges.due(Edges.UNLIKE, x -> x.step(at, 2), at);
            edges.due(Edges.UNLIKE, x -> x.step(at, 3), 3 * at);
        }
        edges.says("Promise 26", "Returns a hash of the state.");
        edges.due(Edges.UNLIKE, x -> x.digest() - Digests.of(x, 8, 3), 0L);
    }

    private static Edges.Setup undone(int times) {
        return x -> {
            Edges.UNLIKE.on(x);
            for (int time = 0; time < times; time++) {
                x.undo();
            }
        };
    }

    /** Seven parts, three saved states. */
    private static Edges.Setup seven() {
        return Edges.all(undone(1), BarForger::crop);
    }

    /** Part k and the one behind it alike, warm enough to weld them, three saved states. */
    private static Edges.Setup welded(int k) {
        return Edges.all(undone(3), BarForger::crop, x -> x.cut(k, 5), BarForger::heat);
    }

    /** Each undoable call, behind which an undo leaves all parts, steps and counts as they were. */
    private void saved() {
        edges.says("Terms", "The saved state contains everything except the text.");
        edges.undoable(Edges.UNLIKE, x -> x.take(7, 9, 11));
        edges.undoable(Edges.UNLIKE, x -> x.setScale(3));
        edges.undoable(Edges.UNLIKE, BarForger::heat);
        edges.undoable(Edges.UNLIKE, x -> x.pause(9));
        edges.undoable(Edges.UNLIKE, BarForger::crop);
        edges.undoable(Edges.UNLIKE, BarForger::clearSteps);
        edges.undoable(undone(2), x -> x.tellStep(99, 98, 9, 97));
        edges.undoable(Edges.UNLIKE, BarForger::carryOut);
        for (int part = 0; part < 8; part++) {
            int at = part;
            edges.undoable(Edges.UNLIKE, x -> x.blow(at, at % 2, 2));
            edges.undoable(Edges.UNLIKE, x -> x.forge(at, 24 - at, 19 - at, at));
        }
        for (int part = 0; part < 7; part++) {
            int at = part;
            edges.undoable(seven(), x -> x.cut(at, 5));
            edges.undoable(welded(at), x -> x.weld(at));
        }
    }

    private void refused() {
        edges.says("Terms", "A call that throws an exception changes nothing.");
        for (int part = 0; part < 8; part++) {
            int at = part;
            edges.refused(Edges.UNLIKE, x -> x.blow(at, 0, 11), Edges.STATE);
            edges.refused(Edges.UNLIKE, x -> x.cut(at, 5), Edges.STATE);
            edges.refused(Edges.UNLIKE, x -> x.weld(at), at < 7 ? Edges.STATE : Edges.INDEX);
            edges.refused(Edges.UNLIKE, x -> x.forge(at, 100, 100, 0), Edges.STATE);
        }
        edges.refused(Edges.UNLIKE, x -> x.blow(7, 2, 1), Edges.STATE);
        edges.refused(Edges.UNLIKE, x -> x.tellStep(9, 8, 7, 6), Edges.STATE);
        edges.refused(Edges.UNLIKE, x -> x.take(9, 8, 0), Edges.ARGUMENT);
        edges.refused(Edges.UNLIKE, x -> x.step(8, 0), Edges.INDEX);
    }

    /** What the steps cost is what forging each part costs in turn; no question leaves a trace of its trial. */
    private void asked() {
        edges.says("Promise 19", "as if that were carried out, with warmth and volumes as they become.");
        edges.due(Edges.UNLIKE, BarForger::heatsToSteps, 1);
        edges.due(Edges.all(Edges.UNLIKE, x -> x.pause(60)), x -> {
            int told = x.heatsToSteps();
            int before = x.value(3);
            for (int part = 0; part < 8; part++) {
                x.forge(part, 24 - part, 19 - part, part);
            }
            return told * 100 + x.value(3) - before;
        }, 101);
        edges.question(Edges.UNLIKE, BarForger::heatsToSteps);
        edges.says("Promise 18", "Tells how many heats forging a part to a wish would need now.");
        for (int part = 0; part < 8; part++) {
            int at = part;
            edges.due(Edges.UNLIKE, x -> x.heatsTo(at, 24 - at, 19 - at, at), 0);
            edges.question(Edges.all(Edges.UNLIKE, x -> x.pause(60)), x -> x.heatsTo(at, 24 - at, 19 - at, at));
        }
        edges.says("Promise 20", "Returns the volume of all parts / (width * height).");
        edges.due(Edges.UNLIKE, x -> x.lengthAs(7, 11), 112065 / 77);
        edges.says("Promise 21", "Returns the share of the volume that is left.");
        edges.due(Edges.UNLIKE, BarForger::kept, 112065.0 / 120599.0);
    }

    /** Width, height, volume and blows of one part, in one number. */
    private static long stored(BarForger x, int part) {
        return ((x.part(part, 0) * 1000L + x.part(part, 1)) * 10000000L + x.part(part, 2)) * 1000L + x.part(part, 4);
    }

    private static long stored(int width, int height, int volume, int blows) {
        return ((width * 1000L + height) * 10000000L + volume) * 1000L + blows;
    }

    private static long before(int part) {
        return stored(PARTS[part][0], PARTS[part][1], PARTS[part][2], PARTS[part][4]);
    }

    /** A cut moves the parts behind it by one, and a weld brings them back, with all that is theirs. */
    private void moved() {
        edges.says("Promise 7", "a first part of this length, with the volume length * width * height, and the rest "
                + "behind it.");
        for (int part = 0; part < 7; part++) {
            int at = part;
            int[] cut = PARTS[at];
            int first = 5 * cut[0] * cut[1];
            Edges.Setup setup = Edges.all(seven(), x -> x.cut(at, 5));
            edges.due(setup, x -> stored(x, at), stored(cut[0], cut[1], first, cut[4]));
            edges.due(setup, x -> stored(x, at + 1), stored(cut[0], cut[1], cut[2] - first, cut[4]));
            for (int other = 0; other < 7; other++) {
                int shown = other;
                if (shown != at) {
                    edges.due(setup, x -> stored(x, shown < at ? shown : shown + 1), before(shown));
                }
            }
        }
        edges.says("Promise 8", "Welds a part and the one behind it to one part, with both volumes.");
        Edges.Setup lossless = Edges.all(x -> x.setScale(0), BarForger::heat);
        for (int part = 0; part < 7; part++) {
            int at = part;
            int[] cut = PARTS[at];
            Edges.Setup setup = Edges.all(seven(), x -> x.cut(at, 5), lossless, x -> x.weld(at));
            edges.due(setup, x -> stored(x, at), stored(cut[0], cut[1], cut[2], 2 * cut[4]));
            for (int other = 0; other < 7; other++) {
                int shown = other;
                if (shown != at) {
                    edges.due(setup, x -> stored(x, shown), before(shown));
                }
            }
        }
    }
}
