/** Promises 25 and 26: undo and digest. */
public final class StateTests {
    private final Checks checks = new Checks("StateTests");

    public static void main(String[] args) {
        new StateTests().run();
    }

    private void run() {
        undoOfNothing();
        undoOfFour();
        undoOfEach();
        undoOfWhatChangesNothing();
        questionsSaveNothing();
        digestOfNew();
        digestOfMany();
        checks.end();
    }

    private void undoOfNothing() {
        BarForger x = new BarForger();
        checks.unchanged("no saved state", x, IllegalStateException.class, x::undo);
        x.pause(1);
        checks.due("undo", x.undo(), 0);
        checks.unchanged("no saved state again", x, IllegalStateException.class, x::undo);
    }

    private void undoOfFour() {
        BarForger x = new BarForger();
        for (int minute = 1; minute <= 6; minute++) {
            checks.due("a minute", x.pause(1), 1250 - 20 * minute);
        }
        for (int left = 3; left >= 0; left--) {
            checks.due("undo", x.undo(), left);
            checks.due("the warmth", x.value(1), 1250 - 20 * (2 + left));
        }
        checks.state("the oldest were dropped", x::undo);
        x.pause(1);
        x.undo();
        x.pause(2);
        x.pause(3);
        checks.due("saved behind an undo", x.undo(), 1);
        checks.due("the warmth", x.value(1), 1250 - 20 * 4);
    }

    private BarForger busy() {
        BarForger x = new BarForger();
        x.tellStep(30, 30, 2, 10);
        x.cut(0, 100);
        x.blow(1, 1, 3);
        x.heat();
        x.crop();
        x.cut(0, 40);
        x.append('h');
        x.append(';');
        x.undo();
        x.cut(0, 41);
        x.undo();
        x.cut(0, 42);
        return x;
    }

    private void dueUndone(String what, BarForger x, Checks.Call call) {
        x.undo();
        long before = x.digest();
        double kept = x.kept();
        try {
            call.run();
        } catch (RuntimeException thrown) {
            checks.holds(what + " threw", false);
            return;
        }
        checks.due("undo of " + what, x.undo(), 3);
        checks.due("all of " + what + " is undone", x.digest(), before);
        checks.dueDouble("the share ahead of " + what, x.kept(), kept);
    }

    private void undoOfEach() {
        BarForger x = busy();
        dueUndone("take", x, () -> x.take(10, 10, 1000));
        dueUndone("setScale", busyAgain(x), () -> x.setScale(20));
        dueUndone("blow", busyAgain(x), () -> x.blow(0, 1, 2));
        dueUndone("heat", busyAgain(x), x::heat);
        dueUndone("pause", busyAgain(x), () -> x.pause(5));
        dueUndone("cut", busyAgain(x), () -> x.cut(0, 7));
        dueUndone("forge", busyAgain(x), () -> x.forge(0, 20, 20, 1));
        dueUndone("tellStep", busyAgain(x), () -> x.tellStep(10, 10, 0, 0));
        dueUndone("clearSteps", busyAgain(x), x::clearSteps);
        dueUndone("carryOut", busyAgain(x), x::carryOut);
        x.take(20, 20, 20000);
        x.cut(0, 5);
        dueUndone("weld", busyAgain(x), () -> x.weld(0));
        dueUndone("crop", busyAgain(x), x::crop);
    }

    /** Fills the saved states up, so that one undo leaves three. */
    private BarForger busyAgain(BarForger x) {
        for (int times = 0; times < 4; times++) {
            x.setScale(11 + times);
        }
        return x;
    }

    private void dueSaved(String what, BarForger x, Checks.Call call) {
        int before = saved(x);
        call.run();
        checks.due(what + " saves a state", saved(x), before + 1);
    }

    /** The number of saved states, found by the digest, which ends with it. */
    private static int saved(BarForger x) {
        return (int) (x.digest() - Digests.withoutSaved(x, 0));
    }

    private void undoOfWhatChangesNothing() {
        BarForger x = new BarForger();
        x.pause(60);
        x.pause(60);
        x.undo();
        x.undo();
        dueSaved("setScale to the same", x, () -> x.setScale(10));
        dueSaved("clearSteps of none", x, x::clearSteps);
        dueSaved("forge without blows", x, () -> x.forge(0, 40, 40, 0));
        dueSaved("carryOut without orders", x, x::carryOut);
        BarForger cold = new BarForger();
        cold.pause(60);
        cold.pause(60);
        dueSaved("pause of a cold bar", cold, () -> cold.pause(1));
    }

    private void questionsSaveNothing() {
        BarForger x = new BarForger();
        x.tellStep(30, 30, 1, 1);
        long before = x.digest();
        x.part(0, 3);
        x.value(5);
        x.step(0, 0);
        x.way(0, 30, 30, 0);
        x.blowOf(0, 30, 30, 1, 0);
        x.heatsTo(0, 5, 5, 0);
        x.heatsToSteps();
        x.lengthAs(9, 9);
        x.kept();
        x.digest();
        checks.due("questions change nothing", x.digest(), before);
        x.append('!');
        checks.due("a syntax error", x.carryOut(), -10);
        x.clearText();
        checks.due("text saves nothing", x.digest(), before);
    }

    private void digestOfNew() {
        long h = 3547;
        int[] values = {0, 1, 1250, 10, 0, 0, 400000, 0, 0, 250, 0, 0, 34, 40, 40, 400000, 250, 0, 1, 1, 0, 0, 0, 0};
        for (int v : values) {
            h = 31 * h + v;
        }
        checks.due("digest of a new object", new BarForger().digest(), h);
    }

    private void digestOfMany() {
        BarForger x = busy();
        checks.due("digest", x.digest(), Digests.of(x, 2, 4));
        x.tellStep(20, 21, 3, 4);
        checks.due("digest with steps", x.digest(), Digests.of(x, 2, 4));
        x.tellStep(100, 5, 0, 0);
        x.cut(1, 3);
        checks.due("no way for a step", x.heatsToSteps(), -1);
        checks.due("digest without a way", x.digest(), Digests.of(x, 2, 4));
        x.append('c');
        x.undo();
        checks.due("digest behind undo", x.digest(), Digests.of(x, 3, 3));
        x.clearText();
        x.heat();
        checks.due("digest without a text", x.digest(), Digests.of(x, 0, 4));
    }
}
