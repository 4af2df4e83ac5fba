/** Promises 16 to 21: the what-if questions. */
public final class WayTests {
    private static final Class<?> INDEX = IndexOutOfBoundsException.class;
    private static final Class<?> ARGUMENT = IllegalArgumentException.class;
    private static final int[] OUTSIDE = {Integer.MIN_VALUE, -1, 1, 8, Integer.MAX_VALUE};
    private static final int[][] WRONG_WISHES = {{4, 30, 0}, {101, 30, 0}, {30, 4, 0}, {30, 101, 0}, {30, 30, -1},
        {30, 30, 10}, {Integer.MIN_VALUE, 30, 0}, {30, Integer.MAX_VALUE, 0}, {30, 30, Integer.MIN_VALUE}};

    private final Checks checks = new Checks("WayTests");

    public static void main(String[] args) {
        new WayTests().run();
    }

    private void run() {
        way();
        wayOfSixtyBlows();
        wayRefusals();
        blowOf();
        blowOfRefusals();
        heatsTo();
        heatsToSteps();
        lengthAs();
        kept();
        checks.end();
    }

    private void dueBlows(BarForger x, int width, int height, int tolerance, int... wants) {
        checks.due("way", x.way(0, width, height, tolerance), wants.length);
        for (int index = 0; index < wants.length; index++) {
            checks.due("blow " + index, x.blowOf(0, width, height, tolerance, index), wants[index]);
        }
        checks.due("a blow too many", x.blowOf(0, width, height, tolerance, wants.length), -1);
    }

    private void way() {
        BarForger x = new BarForger();
        long before = x.digest();
        checks.due("there already", x.way(0, 40, 40, 0), 0);
        checks.due("there with the tolerance", x.way(0, 49, 31, 9), 0);
        checks.due("one draw", x.way(0, 41, 36, 0), 1);
        checks.due("one draw turned", x.way(0, 36, 41, 0), 1);
        checks.due("no way", x.way(0, 100, 5, 0), -1);
        checks.due("way changes nothing", x.digest(), before);
        x.pause(60);
        checks.due("one draw, cold", x.way(0, 41, 36, 0), 1);
        x.take(20, 20, 8000);
        checks.due("one upset", x.way(0, 21, 21, 0), 1);
        x.take(20, 20, 24400);
        checks.due("not by an upset of a long part", x.way(0, 21, 21, 0), -1);
        x.take(20, 20, 8000);
        x.cut(0, 18);
        x.blow(1, 2, 1);
        checks.due("the first part's section", x.way(0, 20, 20, 0), 0);
        checks.due("the second part's section", x.way(1, 21, 21, 0), 0);
        checks.due("the first part's volume", x.way(0, 40, 40, 0), 20);
        checks.due("the second part's volume", x.way(1, 40, 40, 0), -1);
    }

    private void wayOfSixtyBlows() {
        BarForger x = new BarForger();
        x.take(12, 12, 5300);
        checks.due("60 upsets", x.way(0, 72, 72, 0), 60);
        checks.due("the last of 60", x.blowOf(0, 72, 72, 0, 59), 2);
        checks.due("none behind it", x.blowOf(0, 72, 72, 0, 60), -1);
        checks.due("its heats", x.heatsTo(0, 72, 72, 0), 1);
        checks.due("61 upsets", x.way(0, 73, 73, 0), -1);
        checks.due("no first of 61", x.blowOf(0, 73, 73, 0, 0), -1);
        checks.due("no heats of 61", x.heatsTo(0, 73, 73, 0), -1);
        checks.state("forge with 61", () -> x.forge(0, 73, 73, 0));
        checks.due("61 upsets, nearly", x.way(0, 73, 73, 1), 60);
        checks.due("forge with 60", x.forge(0, 72, 72, 0), 60);
    }

    private void wayRefusals() {
        BarForger x = new BarForger();
        for (int part : OUTSIDE) {
            checks.unchanged("no such part", x, INDEX, () -> x.way(part, 30, 30, 0));
            checks.unchanged("no such part, wrong wish", x, INDEX, () -> x.way(part, 4, 30, 0));
            checks.unchanged("heats of no part", x, INDEX, () -> x.heatsTo(part, 30, 30, 0));
            checks.unchanged("heats of no part, wrong wish", x, INDEX, () -> x.heatsTo(part, 4, 30, 0));
        }
        for (int[] w : WRONG_WISHES) {
            checks.unchanged("a wrong wish", x, ARGUMENT, () -> x.way(0, w[0], w[1], w[2]));
            checks.unchanged("heats of a wrong wish", x, ARGUMENT, () -> x.heatsTo(0, w[0], w[1], w[2]));
        }
    }

    private void blowOf() {
        BarForger x = new BarForger();
        long before = x.digest();
        dueBlows(x, 40, 40, 0);
        dueBlows(x, 41, 36, 0, 0);
        dueBlows(x, 36, 41, 0, 1);
        dueBlows(x, 30, 30, 2, 0, 0, 0, 0, 1, 1, 1, 1);
        checks.due("far behind the last", x.blowOf(0, 30, 30, 2, Integer.MAX_VALUE), -1);
        checks.due("without a way", x.blowOf(0, 100, 5, 0, 0), -1);
        checks.due("blowOf changes nothing", x.digest(), before);
        x.take(20, 20, 8000);
        dueBlows(x, 22, 22, 0, 2, 2);
        x.take(8, 9, 72 * 5);
        checks.due("an upset and a draw lead there too", sidesBehind(x, 2, 0), 9 * 1000 + 9);
        dueBlows(x, 9, 9, 0, 0, 2);
    }

    /** The sides of part 0 behind two blows, which are undone. */
    private static int sidesBehind(BarForger x, int first, int second) {
        x.blow(0, first, 1);
        x.blow(0, second, 1);
        int sides = x.part(0, 0) * 1000 + x.part(0, 1);
        x.undo();
        x.undo();
        return sides;
    }

    private void blowOfRefusals() {
        BarForger x = new BarForger();
        for (int part : OUTSIDE) {
            checks.unchanged("no such part", x, INDEX, () -> x.blowOf(part, 30, 30, 0, 0));
            checks.unchanged("no such part, wrong wish", x, INDEX, () -> x.blowOf(part, 4, 30, 0, 0));
        }
        for (int index : new int[] {-1, Integer.MIN_VALUE}) {
            checks.unchanged("a negative index", x, INDEX, () -> x.blowOf(0, 30, 30, 0, index));
            checks.unchanged("a negative index, wrong wish", x, INDEX, () -> x.blowOf(0, 30, 30, 10, index));
        }
        for (int[] w : WRONG_WISHES) {
            checks.unchanged("a wrong wish", x, ARGUMENT, () -> x.blowOf(0, w[0], w[1], w[2], 0));
        }
    }

    private void heatsTo() {
        BarForger x = new BarForger();
        x.setScale(50);
        long before = x.digest();
        checks.due("heats of no blows", x.heatsTo(0, 40, 40, 0), 0);
        checks.due("heats of 8 blows, hot", x.heatsTo(0, 30, 30, 2), 0);
        checks.due("heats of 44 blows, hot", x.heatsTo(0, 5, 5, 0), 1);
        checks.due("heats without a way", x.heatsTo(0, 100, 5, 0), -1);
        checks.due("heatsTo changes nothing", x.digest(), before);
        x.pause(20);
        checks.due("heats of no blows at 850", x.heatsTo(0, 40, 40, 0), 0);
        checks.due("heats of one blow at 850", x.heatsTo(0, 41, 36, 0), 0);
        checks.due("heats of 8 blows at 850", x.heatsTo(0, 30, 30, 2), 1);
        x.pause(1);
        checks.due("heats of no blows at 830", x.heatsTo(0, 40, 40, 0), 0);
        checks.due("heats of one blow at 830", x.heatsTo(0, 41, 36, 0), 1);
        checks.due("blows to far", x.way(0, 5, 5, 0), 47);
        checks.due("heats of 47 blows at 830", x.heatsTo(0, 5, 5, 0), 2);
        checks.due("as many as forging needs", x.forge(0, 5, 5, 0), 47);
        checks.due("which are", x.value(3), 2);
        x.take(40, 40, 400000);
        x.heat();
        x.heat();
        checks.due("heats so far do not count", x.heatsTo(0, 5, 5, 0), 1);
    }

    private void heatsToSteps() {
        BarForger x = new BarForger();
        checks.due("heats without steps", x.heatsToSteps(), 0);
        x.tellStep(5, 5, 0, 9999);
        long before = x.digest();
        checks.due("one step", x.heatsToSteps(), 1);
        checks.due("heatsToSteps changes nothing", x.digest(), before);
        x.heat();
        checks.due("heats so far do not count", x.heatsToSteps(), 1);
        x.tellStep(100, 5, 0, 0);
        checks.due("a step without a part", x.heatsToSteps(), 1);
        x.cut(0, 50);
        checks.due("no way for one of them", x.heatsToSteps(), -1);
        x.clearSteps();
        x.tellStep(41, 36, 0, 0);
        checks.due("a part without a step", x.heatsToSteps(), 0);
        x.pause(20);
        checks.due("one blow at 850", x.heatsToSteps(), 0);
        x.tellStep(41, 36, 0, 0);
        checks.due("warmth as it becomes", x.heatsToSteps(), 1);
        volumesAsTheyBecome();
    }

    /** The first step's heats leave the second part too little volume for its last upset. */
    private void volumesAsTheyBecome() {
        BarForger x = new BarForger();
        x.take(20, 20, 4000 + 3500);
        x.cut(0, 10);
        x.tellStep(5, 5, 0, 0);
        x.tellStep(60, 60, 0, 0);
        x.pause(20);
        int first = x.heatsTo(0, 5, 5, 0);
        checks.due("the second part has a way now", x.way(1, 60, 60, 0), 40);
        x.setScale(0);
        checks.due("without scale", x.heatsToSteps(), heatsOneByOne(x));
        x.undo();
        checks.holds("the first step needs a heat", first > 0);
        checks.due("with scale", x.heatsToSteps(), -1);
        x.forge(0, 5, 5, 0);
        checks.due("the second part has no way then", x.way(1, 60, 60, 0), -1);
    }

    private static int heatsOneByOne(BarForger x) {
        int before = x.value(3);
        x.forge(0, 5, 5, 0);
        x.forge(1, 60, 60, 0);
        int heats = x.value(3) - before;
        x.undo();
        x.undo();
        return heats;
    }

    private void lengthAs() {
        BarForger x = new BarForger();
        x.cut(0, 100);
        long before = x.digest();
        checks.due("the least section", x.lengthAs(5, 5), 16000);
        checks.due("the greatest section", x.lengthAs(100, 100), 40);
        checks.due("rounded down", x.lengthAs(33, 47), 257);
        checks.due("lengthAs changes nothing", x.digest(), before);
        x.crop();
        checks.due("the volume that is left", x.lengthAs(5, 5), 6400);
        x.take(10, 10, 24);
        checks.due("less than one", x.lengthAs(5, 5), 0);
        int[][] wrong = {{4, 5}, {101, 5}, {5, 4}, {5, 101}, {Integer.MIN_VALUE, 5}, {5, Integer.MAX_VALUE}, {0, 0}};
        for (int[] w : wrong) {
            checks.unchanged("a wrong section", x, ARGUMENT, () -> x.lengthAs(w[0], w[1]));
        }
    }

    private void kept() {
        BarForger x = new BarForger();
        x.cut(0, 75);
        long before = x.digest();
        checks.dueDouble("nothing is lost", x.kept(), 1.0);
        checks.due("kept changes nothing", x.digest(), before);
        x.crop();
        checks.dueDouble("cropped", x.kept(), 0.3);
        x.undo();
        x.setScale(50);
        x.heat();
        checks.dueDouble("scaled", x.kept(), 0.95);
        x.take(7, 7, 300);
        checks.dueDouble("a new bar", x.kept(), 1.0);
        x.setScale(7);
        x.heat();
        checks.dueDouble("no short number", x.kept(), 298.0 / 300.0);
    }
}
