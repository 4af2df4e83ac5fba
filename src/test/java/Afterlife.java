import java.util.ArrayList;
import java.util.List;

/** What later calls of an object show, as a row of answers; a call that throws answers the exception's class. */
final class Afterlife {
    private static final int MOST_SAVED = 4;

    private Afterlife() {
    }

    /** The answers of all questions, and those behind each undo, down to one that is refused. */
    static List<Object> undone(BarForger x) {
        List<Object> shown = questions(x);
        for (int times = 0; times <= MOST_SAVED; times++) {
            shown.add(answer(x::undo));
            shown.addAll(questions(x));
        }
        shown.add(x.clearText());
        return shown;
    }

    /** The answers behind carrying the text out, as it is and with a semicolon more, and of blows and heats then. */
    static List<Object> carriedOut(BarForger x) {
        List<Object> shown = new ArrayList<>();
        shown.add(answer(x::carryOut));
        shown.addAll(questions(x));
        shown.add(answer(() -> x.append(';')));
        shown.add(answer(x::carryOut));
        shown.addAll(questions(x));
        shown.add(answer(() -> x.blow(0, 1, 1)));
        shown.add(x.heat());
        shown.addAll(questions(x));
        shown.add(x.clearText());
        return shown;
    }

    static Object answer(Checks.Call call) {
        try {
            return call.run();
        } catch (RuntimeException thrown) {
            return thrown.getClass();
        }
    }

    private static List<Object> questions(BarForger x) {
        List<Object> shown = new ArrayList<>();
        for (int what = 0; what <= 11; what++) {
            shown.add(x.value(what));
        }
        for (int part = 0; part < x.value(0); part++) {
            for (int what = 0; what <= 8; what++) {
                shown.add(x.part(part, what));
            }
            shown.add(x.way(part, 18, 19, 2));
            shown.add(x.blowOf(part, 18, 19, 2, 1));
            shown.add(x.heatsTo(part, 18, 19, 2));
        }
        for (int step = 0; step < x.value(9); step++) {
            for (int what = 0; what <= 3; what++) {
                shown.add(x.step(step, what));
            }
        }
        shown.add(x.heatsToSteps());
        shown.add(x.lengthAs(5, 5));
        shown.add(x.kept());
        shown.add(x.digest());
        return shown;
    }
}
