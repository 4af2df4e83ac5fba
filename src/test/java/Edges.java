import java.util.function.IntFunction;

/** Checks on the edges of the document's sentences, each on a smithy of its own that is set up anew. */
final class Edges {
    interface Setup {
        void on(BarForger x);
    }

    interface Call {
        Object on(BarForger x);
    }

    interface NumberCall {
        Object on(BarForger x, int number);
    }

    static final Class<?> INDEX = IndexOutOfBoundsException.class;
    static final Class<?> ARGUMENT = IllegalArgumentException.class;
    static final Class<?> STATE = IllegalStateException.class;

    static final Setup NEW = x -> { };
    static final Setup BUSY = Edges::busy;
    /** As busy, with one step and two saved states. */
    static final Setup CALM = x -> {
        busy(x);
        x.undo();
        x.undo();
    };

    /** Eight parts and eight steps of which no two are alike, all counts at work; three saved states. */
    static final Setup UNLIKE = x -> {
        unlike(x);
        x.pause(1);
        x.undo();
    };

    private final Checks checks;
    private final Document document;
    private String sentence = "no sentence";
    private int number;

    Edges(Checks checks, Document document) {
        this.checks = checks;
        this.document = document;
    }

    /** Three parts 29, 20 and 40 long, 20 by 20 all, two steps, a text, and four saved states that all differ. */
    private static void busy(BarForger x) {
        x.setScale(13);
        x.take(20, 24, 48000);
        x.blow(0, 0, 2);
        x.cut(0, 30);
        x.heat();
        x.cut(1, 20);
        x.cut(2, 40);
        x.crop();
        x.tellStep(20, 20, 1, 25);
        x.tellStep(18, 20, 1, 5);
        x.pause(2);
        write(x, "h;d0;t1x2;");
    }

    /** Part k is 10 + k long at first, and gets k + 1 draws, turned ones where k is odd. */
    private static void unlike(BarForger x) {
        x.setScale(17);
        x.take(30, 20, 600 * 200 + 599);
        x.cut(0, 190);
        x.crop();
        for (int part = 0; part < 7; part++) {
            x.cut(part, 10 + part);
        }
        for (int part = 0; part < 8; part++) {
            x.blow(part, part % 2, part + 1);
            if (part == 4) {
                x.heat();
            }
        }
        for (int step = 0; step < 8; step++) {
            x.tellStep(24 - step, 19 - step, step, 3 * step);
        }
        x.pause(2);
        write(x, "t6;u7;h;");
    }

    static void write(BarForger x, String text) {
        x.clearText();
        for (int i = 0; i < text.length(); i++) {
            x.append(text.charAt(i));
        }
    }

    static Setup taken(int width, int height, int volume) {
        return x -> x.take(width, height, volume);
    }

    static Setup all(Setup... setups) {
        return x -> {
            for (Setup setup : setups) {
                setup.on(x);
            }
        };
    }

    /** Which sentence the next checks are of; it is to stand in the document. */
    void says(String section, String words) {
        sentence = section + ", \"" + words + "\"";
        number = 0;
        checks.holds(sentence + " stands in the document", document.says(section, words));
    }

    void due(Setup setup, Call call, Object want) {
        checks.equal(name(), outcome(fresh(setup), call), want);
    }

    /** The call throws just this exception, and no later call can tell it from no call at all. */
    void refused(Setup setup, Call call, Class<?> want) {
        BarForger asked = fresh(setup);
        String name = name();
        checks.equal(name, outcome(asked, call), want);
        checks.equal(name + ", as undo shows", Afterlife.undone(asked), Afterlife.undone(fresh(setup)));
        asked = fresh(setup);
        outcome(asked, call);
        checks.equal(name + ", as the text shows", Afterlife.carriedOut(asked), Afterlife.carriedOut(fresh(setup)));
    }

    /** A range's ends and what is next to them, inside and outside. */
    void range(Setup setup, int least, int most, NumberCall call, IntFunction<Object> want) {
        for (int good : new int[] {least, least + 1, most - 1, most}) {
            due(setup, x -> call.on(x, good), want.apply(good));
        }
        outside(setup, least, most, call, ARGUMENT);
    }

    /** The first and the last number of count things, and what is next to them outside. */
    void indices(Setup setup, int count, NumberCall call, IntFunction<Object> want) {
        for (int good : new int[] {0, count - 1}) {
            due(setup, x -> call.on(x, good), want.apply(good));
        }
        outside(setup, 0, count - 1, call, INDEX);
    }

    void outside(Setup setup, int least, int most, NumberCall call, Class<?> want) {
        for (int wrong : new int[] {least - 1, most + 1, Integer.MIN_VALUE, Integer.MAX_VALUE}) {
            refused(setup, x -> call.on(x, wrong), want);
        }
    }

    /** An undo behind the call leaves just what was there before; the setup is to have saved three states at most. */
    void undoable(Setup setup, Call call) {
        String name = name() + " is undoable";
        BarForger x = fresh(setup);
        checks.holds(name, !(outcome(x, call) instanceof Class));
        checks.holds(name + ", a state is saved", !(Afterlife.answer(x::undo) instanceof Class));
        checks.equal(name + ", as it was before", Afterlife.undone(x), Afterlife.undone(fresh(setup)));
    }

    /** The call saves nothing and changes nothing: no later call can tell it from no call at all. */
    void question(Setup setup, Call call) {
        String name = name() + " changes nothing";
        BarForger asked = fresh(setup);
        outcome(asked, call);
        checks.equal(name + ", as undo shows", Afterlife.undone(asked), Afterlife.undone(fresh(setup)));
        asked = fresh(setup);
        outcome(asked, call);
        checks.equal(name + ", as the text shows", Afterlife.carriedOut(asked), Afterlife.carriedOut(fresh(setup)));
    }

    private String name() {
        number++;
        return sentence + " check " + number;
    }

    private static BarForger fresh(Setup setup) {
        BarForger x = new BarForger();
        setup.on(x);
        return x;
    }

    private static Object outcome(BarForger x, Call call) {
        return Afterlife.answer(() -> call.on(x));
    }
}
