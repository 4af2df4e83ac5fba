import java.math.BigInteger;
import java.util.ArrayList;
import java.util.List;

/** Edges of the sentences of promises 25 and 26. */
final class StateEdges {
    private final Edges edges;

    StateEdges(Edges edges) {
        this.edges = edges;
    }

    void run() {
        undoRefused();
        undoAnswers();
        undoRestores();
        digestOfEach();
        digestOverflow();
        none();
    }

    private static Edges.Setup scaled(int times) {
        return x -> {
            for (int time = 1; time <= times; time++) {
                x.setScale(10 + time);
            }
        };
    }

    private static Edges.Setup undone(int times) {
        return x -> {
            for (int time = 0; time < times; time++) {
                x.undo();
            }
        };
    }

    private void undoRefused() {
        edges.says("Promise 25", "Throws IllegalStateException if there is no saved state");
        edges.refused(Edges.NEW, BarForger::undo, Edges.STATE);
        edges.due(scaled(1), BarForger::undo, 0);
        edges.refused(Edges.all(scaled(1), undone(1)), BarForger::undo, Edges.STATE);
        edges.due(Edges.all(scaled(4), undone(3)), BarForger::undo, 0);
        edges.refused(Edges.all(scaled(4), undone(4)), BarForger::undo, Edges.STATE);
        edges.refused(Edges.all(scaled(5), undone(4)), BarForger::undo, Edges.STATE);
        edges.refused(Edges.all(Edges.BUSY, undone(4)), BarForger::undo, Edges.STATE);
        edges.refused(x -> Edges.write(x, "h;h"), BarForger::undo, Edges.STATE);
    }

    private void undoAnswers() {
        edges.says("Promise 25", "Returns the number of saved states that remain.");
        for (int times = 1; times <= 9; times++) {
            edges.due(scaled(times), BarForger::undo, Math.min(times, 4) - 1);
        }
        edges.due(Edges.all(scaled(9), undone(1), scaled(1)), BarForger::undo, 3);
        edges.due(Edges.all(scaled(9), undone(2), scaled(1)), BarForger::undo, 2);
        edges.due(Edges.all(scaled(9), undone(4), scaled(1)), BarForger::undo, 0);
    }

    private void undoRestores() {
        edges.says("Promise 25", "Restores the most recently saved state and removes it from the saved states.");
        for (int times = 1; times <= 9; times++) {
            for (int back = 1; back <= Math.min(times, 4); back++) {
                edges.due(Edges.all(scaled(times), undone(back)), x -> x.value(2), 10 + times - back);
            }
        }
        Edges.Setup branched = Edges.all(scaled(4), undone(2), x -> x.setScale(40), x -> x.setScale(41));
        int[] scales = {40, 12, 11, 10};
        for (int back = 1; back <= 4; back++) {
            edges.due(Edges.all(branched, undone(back)), x -> x.value(2), scales[back - 1]);
        }
        edges.refused(Edges.all(branched, undone(4)), BarForger::undo, Edges.STATE);
        Edges.Setup full = Edges.all(branched, x -> x.setScale(42));
        edges.due(Edges.all(full, undone(1)), x -> x.value(2), 41);
        edges.due(Edges.all(full, undone(4)), x -> x.value(2), 11);
        edges.undoable(Edges.CALM, x -> x.take(9, 9, 9) + x.setScale(1) + x.undo());
    }

    private void dueDigest(Edges.Setup setup, int text, int saved) {
        edges.due(setup, x -> x.digest() - Digests.of(x, text, saved), 0L);
        edges.question(setup, BarForger::digest);
    }

    private void digestOfEach() {
        edges.says("Promise 26", "Start with h = 3547 and, for each of the following values v, set h = 31 * h + v: the "
                + "length of the text; value() for 0 to 11; for each part the values of part() for what = 0 to 8; "
                + "for each step the values of step() for what = 0 to 3; heatsToSteps(); the number of saved states.");
        dueDigest(Edges.NEW, 0, 0);
        dueDigest(x -> x.append(0), 1, 0);
        dueDigest(x -> Edges.write(x, "h".repeat(90)), 90, 0);
        dueDigest(scaled(3), 0, 3);
        dueDigest(scaled(4), 0, 4);
        dueDigest(scaled(5), 0, 4);
        dueDigest(Edges.CALM, 10, 2);
        dueDigest(Edges.BUSY, 10, 4);
        dueDigest(Edges.all(Edges.BUSY, x -> x.pause(60)), 10, 4);
        dueDigest(Edges.all(Edges.BUSY, x -> x.tellStep(100, 5, 0, 9999)), 10, 4);
        dueDigest(Edges.all(Edges.BUSY, BarForger::clearSteps), 10, 4);
        dueDigest(Edges.taken(5, 5, 1), 0, 1);
        dueDigest(Edges.taken(5, 5, 9000000), 0, 1);
        Edges.Setup full = x -> {
            for (int count = 0; count < 8; count++) {
                x.tellStep(36 + count, 40, 4, 1);
                if (count < 7) {
                    x.cut(count, 30);
                }
            }
        };
        dueDigest(full, 0, 4);
        dueDigest(Edges.all(full, x -> x.pause(21)), 0, 4);
    }

    /** The hash without any overflow, of which the lowest 64 bits are left then. */
    private static long exactHash(BarForger x, int text, int saved) {
        List<Integer> values = new ArrayList<>();
        values.add(text);
        for (int what = 0; what <= 11; what++) {
            values.add(x.value(what));
        }
        for (int part = 0; part < x.value(0); part++) {
            for (int what = 0; what <= 8; what++) {
                values.add(x.part(part, what));
            }
        }
        for (int step = 0; step < x.value(9); step++) {
            for (int what = 0; what <= 3; what++) {
                values.add(x.step(step, what));
            }
        }
        values.add(x.heatsToSteps());
        values.add(saved);
        BigInteger hash = BigInteger.valueOf(3547);
        for (int value : values) {
            hash = hash.multiply(BigInteger.valueOf(31)).add(BigInteger.valueOf(value));
        }
        return hash.longValue();
    }

    private void digestOverflow() {
        edges.says("Promise 26", "Returns the hash, with the overflow of long arithmetic ignored.");
        edges.due(Edges.NEW, x -> x.digest() - exactHash(x, 0, 0), 0L);
        edges.due(Edges.BUSY, x -> x.digest() - exactHash(x, 10, 4), 0L);
        edges.due(Edges.taken(100, 100, 9000000), x -> x.digest() - exactHash(x, 0, 1), 0L);
        edges.says("Promise 26", "Returns a hash of the state.");
        edges.due(Edges.NEW, x -> x.digest() - x.digest(), 0L);
        edges.due(Edges.NEW, x -> x.digest() == new BarForger().digest(), true);
        edges.due(Edges.NEW, x -> x.digest() * x.append('h') == x.digest(), false);
    }

    private void none() {
        edges.says("Terms", "The constants: NONE = -1: There is no such thing.");
        edges.due(Edges.NEW, x -> BarForger.NONE, -1);
        edges.due(Edges.NEW, x -> x.way(0, 100, 5, 0), -1);
    }
}
