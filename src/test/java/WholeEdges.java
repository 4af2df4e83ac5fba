import java.util.ArrayList;
import java.util.List;

/** The sentences of "What it is". */
final class WholeEdges {
    private static final int CALLS = 512;

    private final Edges edges;

    WholeEdges(Edges edges) {
        this.edges = edges;
    }

    void run() {
        whole();
        divisions();
        calls();
        laterCalls();
        objectsApart();
    }

    private void says(String words) {
        edges.says("What it is", words);
    }

    private static void note(List<Object> told, Checks.Call call) {
        told.add(Afterlife.answer(call));
    }

    /** One bar through all that the sentence names, each answer worked out by hand. */
    private static List<Object> story(BarForger x) {
        List<Object> told = new ArrayList<>();
        note(told, () -> x.take(20, 20, 20000));
        note(told, () -> x.blow(0, 0, 1));
        note(told, () -> x.blow(0, 1, 1));
        note(told, () -> x.value(1));
        note(told, () -> x.cut(0, 31));
        note(told, () -> x.weld(0));
        note(told, () -> x.cut(0, 60));
        note(told, x::crop);
        note(told, () -> x.blow(0, 2, 1));
        note(told, () -> x.blow(0, 2, 1));
        note(told, x::heat);
        note(told, () -> x.tellStep(17, 17, 0, 60));
        note(told, () -> x.way(0, 17, 17, 0));
        note(told, () -> x.heatsTo(0, 17, 17, 0));
        note(told, x::heatsToSteps);
        note(told, () -> x.lengthAs(17, 17));
        note(told, () -> x.forge(0, 17, 17, 0));
        note(told, () -> x.value(10));
        note(told, x::kept);
        Edges.write(x, "t0;h;");
        note(told, x::carryOut);
        note(told, x::undo);
        note(told, () -> x.part(0, 0));
        return told;
    }

    /** A draw leaves 20 by 18, a draw turned 18 by 19 less 1: 18 by 18, which is 61 long. */
    private void whole() {
        says("Forging of a bar: parts with widths and heights whose volume is kept, blows that draw a part out or upset "
                + "it, warmth that falls and heats that cost scale, cuts, welds and crops, the fewest blows to a wished "
                + "section by a search, told steps that are fitted, volumes that add up, what-if questions, and orders "
                + "that are read from a text.");
        edges.due(Edges.NEW, WholeEdges::story, List.of(50, 55, 61, 1226, 2, 61, 2, 560, Edges.STATE, Edges.STATE, 194,
                0, 2, 0, 0, 66, 2, 1, 19246.0 / 20000.0, 2, 3, 17));
        edges.due(Edges.BUSY, x -> x.value(5) + x.value(6) + x.value(7), 48000);
        edges.due(Edges.BUSY, x -> x.part(0, 2) + x.part(1, 2) + x.part(2, 2) - x.value(5), 0);
    }

    private void divisions() {
        says("a / b means division rounded down");
        edges.due(Edges.taken(40, 40, 3199), x -> x.part(0, 3), 1);
        edges.due(Edges.taken(40, 40, 3199), x -> x.lengthAs(50, 33), 1);
        edges.due(Edges.taken(40, 40, 199), BarForger::heat, 1);
        edges.due(Edges.taken(59, 59, 40000), x -> x.blow(0, 0, 1) * 0 + x.part(0, 0), 59 + 1);
        edges.due(Edges.taken(59, 59, 40000), x -> x.blow(0, 0, 1) * 0 + x.part(0, 1), 59 - 5);
        says("all divided numbers are 0 or more.");
        edges.due(Edges.taken(100, 100, 1), x -> x.part(0, 3), 0);
        edges.due(Edges.taken(100, 100, 1), x -> x.lengthAs(5, 5), 0);
        edges.due(Edges.taken(100, 100, 1), BarForger::heat, 0);
        edges.due(Edges.all(Edges.taken(100, 100, 1000), x -> x.setScale(0)), BarForger::heat, 0);
    }

    /** 512 calls behind the making; the last few ask what is left. */
    private void calls() {
        says("An object is used for at most 512 calls after it has been made");
        edges.due(Edges.NEW, x -> {
            for (int call = 1; call < CALLS; call++) {
                x.heat();
            }
            return x.value(3);
        }, CALLS - 1);
        edges.due(Edges.NEW, x -> {
            for (int call = 1; call < CALLS; call++) {
                x.digest();
            }
            return x.digest() - Digests.of(x, 0, 0);
        }, 0L);
        edges.due(x -> x.tellStep(5, 5, 0, 0), x -> {
            int blows = 0;
            for (int call = 2; call < CALLS; call += 2) {
                blows += x.forge(0, 5, 5, 0);
                x.undo();
            }
            return blows;
        }, 47 * 255);
    }

    /** What they answer is free, but the machine is not to throw in them. */
    private void laterCalls() {
        says("what later calls answer is free.");
        edges.due(Edges.NEW, x -> {
            for (int call = 0; call < CALLS; call++) {
                x.heat();
            }
            for (int call = 0; call < CALLS; call++) {
                story(x);
            }
            for (Object answer : story(x)) {
                if (answer instanceof Class && answer != Edges.INDEX && answer != Edges.ARGUMENT
                        && answer != Edges.STATE) {
                    return answer;
                }
            }
            return "as declared";
        }, "as declared");
    }

    /** Two objects whose calls take turns answer what each alone does. */
    private void objectsApart() {
        edges.says("Promise 1", "Creates a smithy");
        edges.due(Edges.BUSY, x -> {
            BarForger other = new BarForger();
            long before = x.digest();
            story(other);
            return x.digest() - before;
        }, 0L);
        edges.due(Edges.NEW, x -> {
            BarForger other = new BarForger();
            boolean alike = true;
            for (int turn = 0; turn < 20; turn++) {
                x.heat();
                alike &= other.value(3) == turn && other.way(0, 36, 41, 1) == 1;
                other.heat();
                alike &= x.blowOf(0, 41, 36, 0, 0) == 0;
                x.append('h');
                alike &= other.append('h') == turn + 1;
            }
            return alike && x.digest() == other.digest();
        }, true);
    }
}
