/** Promises 1 to 12: the bar. */
public final class BarTests {
    private static final Class<?> INDEX = IndexOutOfBoundsException.class;
    private static final Class<?> ARGUMENT = IllegalArgumentException.class;
    private static final Class<?> STATE = IllegalStateException.class;
    private static final int[] OUTSIDE = {Integer.MIN_VALUE, -1, 8, Integer.MAX_VALUE};

    private final Checks checks = new Checks("BarTests");

    public static void main(String[] args) {
        new BarTests().run();
    }

    private void run() {
        newObject();
        takeAnswers();
        takeLimits();
        setScale();
        blowDraws();
        blowDrawEdges();
        blowUpsets();
        blowWarmth();
        blowRefusals();
        heat();
        pause();
        cut();
        cutRefusals();
        weld();
        weldWarmth();
        crop();
        forge();
        forgeBeyondScale();
        forgeRefusals();
        part();
        value();
        valueRight();
        checks.end();
    }

    private static BarForger taken(int width, int height, int volume) {
        BarForger x = new BarForger();
        x.take(width, height, volume);
        return x;
    }

    private void duePart(BarForger x, int part, int... wants) {
        for (int what = 0; what < wants.length; what++) {
            checks.due("part(" + part + ", " + what + ")", x.part(part, what), wants[what]);
        }
    }

    private void dueValues(BarForger x, int... wants) {
        for (int what = 0; what < wants.length; what++) {
            checks.due("value(" + what + ")", x.value(what), wants[what]);
        }
    }

    private void newObject() {
        BarForger x = new BarForger();
        checks.due("NONE", BarForger.NONE, -1);
        dueValues(x, 1, 1250, 10, 0, 0, 400000, 0, 0, 250, 0, 0, 34);
        duePart(x, 0, 40, 40, 400000, 250, 0, 1, 1, 0, 0);
        checks.index("a second part", () -> x.part(1, 0));
        checks.index("a first step", () -> x.step(0, 0));
        checks.state("undo of nothing", x::undo);
        checks.due("an empty text", x.clearText(), 0);
        checks.dueDouble("kept", x.kept(), 1.0);
    }

    private void takeAnswers() {
        BarForger x = new BarForger();
        x.setScale(7);
        x.tellStep(40, 40, 3, 1);
        x.blow(0, 0, 3);
        x.cut(0, 30);
        x.cut(0, 10);
        x.crop();
        x.heat();
        x.pause(9);
        checks.due("take", x.take(20, 30, 60599), 100);
        dueValues(x, 1, 1250, 7, 0, 0, 60599, 0, 0, 100, 1, 0, 34);
        duePart(x, 0, 20, 30, 60599, 100, 0, 1, 1, 0, 0);
        checks.dueDouble("kept behind take", x.kept(), 1.0);
        checks.due("undo of take", x.undo(), 3);
        checks.due("the parts from before", x.value(0), 2);
        checks.due("the warmth from before", x.value(1), 1250 - 9 * 20);
        checks.due("the blows from before", x.value(4), 3);
        checks.holds("the share from before", x.kept() < 1.0);
    }

    private void takeLimits() {
        BarForger x = new BarForger();
        checks.due("the least bar", x.take(5, 5, 1), 0);
        checks.due("the greatest bar", x.take(100, 100, 9000000), 900);
        checks.due("the longest bar", x.take(5, 5, 9000000), 360000);
        checks.due("a length rounded down", x.take(7, 11, 7 * 11 * 4 - 1), 3);
        int[][] wrong = {{4, 5, 1}, {101, 5, 1}, {5, 4, 1}, {5, 101, 1}, {5, 5, 0}, {5, 5, 9000001}, {-5, -5, 25},
            {5, 5, Integer.MIN_VALUE}, {Integer.MAX_VALUE, 5, 1}, {5, Integer.MIN_VALUE, 1}};
        for (int[] w : wrong) {
            checks.unchanged("a wrong take", x, ARGUMENT, () -> x.take(w[0], w[1], w[2]));
        }
    }

    private void setScale() {
        BarForger x = new BarForger();
        checks.due("setScale", x.setScale(50), 10);
        checks.due("setScale", x.setScale(0), 50);
        checks.due("no scale", x.heat(), 0);
        checks.due("setScale", x.setScale(0), 0);
        checks.due("undo of setScale", x.undo(), 3);
        for (int wrong : new int[] {-1, 51, Integer.MIN_VALUE, Integer.MAX_VALUE}) {
            checks.unchanged("a wrong scale", x, ARGUMENT, () -> x.setScale(wrong));
        }
        x.setScale(50);
        checks.due("the most scale", x.heat(), 20000);
    }

    private void blowDraws() {
        BarForger x = new BarForger();
        checks.due("a draw", x.blow(0, 0, 1), 400000 / (41 * 36));
        duePart(x, 0, 41, 36, 400000, 271, 1);
        checks.due("two draws turned", x.blow(0, 1, 2), 400000 / (34 * 38));
        duePart(x, 0, 34, 38, 400000, 309, 3);
        checks.due("the warmth", x.value(1), 1250 - 36);
        checks.due("all blows", x.value(4), 3);
        BarForger wide = taken(30, 100, 90000);
        wide.blow(0, 0, 1);
        duePart(wide, 0, 33, 90, 90000, 30);
        BarForger high = taken(100, 30, 90000);
        high.blow(0, 1, 1);
        duePart(high, 0, 90, 33, 90000, 30);
        checks.due("undo of blow", high.undo(), 1);
        duePart(high, 0, 100, 30, 90000, 30, 0);
    }

    private void blowDrawEdges() {
        BarForger low = taken(50, 10, 500);
        checks.due("draws to the least height", low.blow(0, 0, 5), 2);
        duePart(low, 0, 50, 5, 500, 2, 5, 0, 1);
        checks.state("a draw below the least height", () -> low.blow(0, 0, 1));
        BarForger thin = taken(6, 50, 300);
        checks.due("a draw turned to the least width", thin.blow(0, 1, 1), 1);
        duePart(thin, 0, 5, 50, 300, 1, 1, 1, 0);
        checks.state("a draw turned below the least width", () -> thin.blow(0, 1, 1));
        BarForger wide = taken(100, 29, 29000);
        checks.due("a draw at the most width", wide.blow(0, 0, 1), 10);
        duePart(wide, 0, 100, 27);
        BarForger wider = taken(100, 30, 30000);
        duePart(wider, 0, 100, 30, 30000, 10, 0, 0, 1);
        checks.state("a draw beyond the most width", () -> wider.blow(0, 0, 1));
        BarForger toMost = taken(99, 30, 29700);
        checks.due("a draw to the most width", toMost.blow(0, 0, 1), 11);
        duePart(toMost, 0, 100, 27);
        BarForger high = taken(30, 100, 30000);
        duePart(high, 0, 30, 100, 30000, 10, 0, 1, 0);
        checks.state("a draw turned beyond the most height", () -> high.blow(0, 1, 1));
        BarForger pastMiddle = taken(95, 60, 57000);
        checks.unchanged("later draws beyond the most width", pastMiddle, STATE, () -> pastMiddle.blow(0, 0, 6));
    }

    private void blowUpsets() {
        BarForger x = taken(20, 20, 24000);
        duePart(x, 0, 20, 20, 24000, 60, 0, 1, 1, 1);
        checks.due("an upset of the most length", x.blow(0, 2, 1), 24000 / 441);
        duePart(x, 0, 21, 21, 24000, 54, 1);
        x.take(20, 20, 24399);
        checks.due("an upset of the most length, rounded down", x.blow(0, 2, 1), 24399 / 441);
        x.take(20, 20, 24400);
        duePart(x, 0, 20, 20, 24400, 61, 0, 1, 1, 0);
        checks.state("an upset of a long part", () -> x.blow(0, 2, 1));
        x.take(30, 20, 60 * 600);
        checks.due("the smaller side counts", x.blow(0, 2, 1), 36000 / (31 * 21));
        x.take(30, 20, 61 * 600);
        checks.state("the greater side does not count", () -> x.blow(0, 2, 1));
        x.take(20, 30, 61 * 600);
        checks.state("the smaller side counts, turned", () -> x.blow(0, 2, 1));
        x.take(20, 20, 400);
        checks.due("an upset of the least length", x.blow(0, 2, 1), 0);
        checks.state("an upset of no length", () -> x.blow(0, 2, 1));
        x.take(99, 99, 9801);
        checks.due("an upset to the most sides", x.blow(0, 2, 1), 0);
        duePart(x, 0, 100, 100);
        x.take(100, 50, 50000);
        checks.state("an upset beyond the most width", () -> x.blow(0, 2, 1));
        x.take(50, 100, 50000);
        checks.state("an upset beyond the most height", () -> x.blow(0, 2, 1));
    }

    private void blowWarmth() {
        BarForger x = taken(20, 20, 10000);
        checks.unchanged("35 blows from hot", x, STATE, () -> x.blow(0, 2, 35));
        checks.due("34 blows from hot", x.blow(0, 2, 34), 10000 / (54 * 54));
        duePart(x, 0, 54, 54, 10000, 3, 34);
        checks.due("the warmth then", x.value(1), 1250 - 34 * 12);
        checks.state("a blow below 850", () -> x.blow(0, 2, 1));
        checks.due("undo of blow", x.undo(), 1);
        duePart(x, 0, 20, 20, 10000, 25, 0);
        x.pause(20);
        checks.due("the warmth", x.value(1), 850);
        checks.unchanged("two blows from 850", x, STATE, () -> x.blow(0, 2, 2));
        checks.due("a blow at 850", x.blow(0, 2, 1), 10000 / 441);
        checks.due("the warmth below", x.value(1), 838);
        checks.state("a blow at 838", () -> x.blow(0, 0, 1));
    }

    private void blowRefusals() {
        BarForger x = new BarForger();
        for (int part : OUTSIDE) {
            checks.unchanged("no such part", x, INDEX, () -> x.blow(part, 0, 1));
            checks.unchanged("no such part, wrong kind", x, INDEX, () -> x.blow(part, 3, 0));
        }
        checks.index("behind the last part", () -> x.blow(1, 0, 1));
        for (int kind : new int[] {-1, 3, Integer.MIN_VALUE, Integer.MAX_VALUE}) {
            checks.unchanged("a wrong kind", x, ARGUMENT, () -> x.blow(0, kind, 1));
        }
        for (int blows : new int[] {-1, 0, 61, Integer.MIN_VALUE, Integer.MAX_VALUE}) {
            checks.unchanged("wrong blows", x, ARGUMENT, () -> x.blow(0, 0, blows));
        }
        checks.unchanged("60 blows", x, STATE, () -> x.blow(0, 0, 60));
        x.pause(60);
        checks.unchanged("wrong blows, cold", x, ARGUMENT, () -> x.blow(0, 0, 61));
        checks.unchanged("a wrong kind, cold", x, ARGUMENT, () -> x.blow(0, 3, 1));
    }

    private void heat() {
        BarForger x = taken(10, 10, 1490);
        x.setScale(9);
        x.cut(0, 5);
        x.pause(60);
        checks.due("each part loses by itself", x.heat(), 4 + 8);
        dueValues(x, 2, 1250, 9, 1, 0, 1478, 12, 0, 4 + 9);
        duePart(x, 0, 10, 10, 496, 4);
        duePart(x, 1, 10, 10, 982, 9);
        checks.due("a heat of a hot bar", x.heat(), 4 + 8);
        checks.due("two heats", x.value(3), 2);
        checks.due("the scale of both", x.value(6), 24);
        checks.due("undo of heat", x.undo(), 3);
        checks.due("one heat", x.value(3), 1);
        checks.due("its scale", x.value(6), 12);
        checks.due("a great bar's heat", taken(100, 100, 9000000).heat(), 90000);
        checks.due("a small bar's heat", taken(5, 5, 99).heat(), 0);
    }

    private void pause() {
        BarForger x = new BarForger();
        checks.due("a minute", x.pause(1), 1230);
        checks.due("an hour", x.pause(60), 30);
        checks.due("not below 20", x.pause(1), 20);
        checks.due("not below 20 again", x.pause(60), 20);
        checks.due("undo", x.undo(), 3);
        checks.due("undo", x.undo(), 2);
        checks.due("the warmth from before", x.value(1), 30);
        for (int wrong : new int[] {0, -1, 61, Integer.MIN_VALUE, Integer.MAX_VALUE}) {
            checks.unchanged("wrong minutes", x, ARGUMENT, () -> x.pause(wrong));
        }
        checks.due("the longest pause", new BarForger().pause(60), 50);
    }

    private void cut() {
        BarForger x = taken(10, 20, 20150);
        x.blow(0, 1, 1);
        duePart(x, 0, 9, 20, 20150, 111, 1);
        checks.due("cut", x.cut(0, 30), 2);
        duePart(x, 0, 9, 20, 5400, 30, 1, 1, 1, 0, 0);
        duePart(x, 1, 9, 20, 14750, 81, 1);
        x.blow(1, 0, 2);
        checks.due("a cut ahead of another", x.cut(0, 10), 3);
        duePart(x, 0, 9, 20, 1800, 10, 1);
        duePart(x, 1, 9, 20, 3600, 20, 1);
        duePart(x, 2, 9, 17, 14750, 96, 3);
        checks.due("all blows stay", x.value(4), 3);
        checks.due("undo of cut", x.undo(), 3);
        duePart(x, 0, 9, 20, 5400, 30, 1);
        duePart(x, 1, 9, 17, 14750, 96, 3);
        checks.due("parts", x.value(0), 2);
    }

    private void cutRefusals() {
        BarForger x = new BarForger();
        checks.unchanged("a cut of its length", x, STATE, () -> x.cut(0, 250));
        checks.unchanged("a cut beyond its length", x, STATE, () -> x.cut(0, 9999));
        for (int wrong : new int[] {0, -1, 10000, Integer.MIN_VALUE, Integer.MAX_VALUE}) {
            checks.unchanged("a wrong length", x, ARGUMENT, () -> x.cut(0, wrong));
        }
        for (int part : OUTSIDE) {
            checks.unchanged("no such part", x, INDEX, () -> x.cut(part, 1));
            checks.unchanged("no such part, wrong length", x, INDEX, () -> x.cut(part, 0));
        }
        checks.index("behind the last part", () -> x.cut(1, 1));
        checks.due("a cut just below", x.cut(0, 249), 2);
        duePart(x, 1, 40, 40, 1600, 1);
        checks.due("the least length", x.cut(0, 1), 3);
        duePart(x, 0, 40, 40, 1600, 1);
        duePart(x, 1, 40, 40, 248 * 1600, 248);
        BarForger longest = taken(10, 10, 9000000);
        checks.due("the greatest length", longest.cut(0, 9999), 2);
        duePart(longest, 0, 10, 10, 999900, 9999);
        for (int parts = 3; parts <= 8; parts++) {
            checks.due("parts", longest.cut(parts - 2, 100), parts);
        }
        checks.unchanged("a ninth part", longest, STATE, () -> longest.cut(7, 100));
        checks.unchanged("a wrong length, 8 parts", longest, ARGUMENT, () -> longest.cut(7, 0));
        checks.index("part 8 of 8", () -> longest.cut(8, 1));
    }

    private void weld() {
        BarForger x = taken(10, 10, 30099);
        x.blow(0, 1, 1);
        x.cut(0, 100);
        x.cut(1, 50);
        x.cut(2, 20);
        checks.due("weld", x.weld(1), 70);
        checks.due("parts", x.value(0), 3);
        duePart(x, 0, 9, 10, 9000, 100, 1);
        duePart(x, 1, 9, 10, 6300, 70, 2);
        duePart(x, 2, 9, 10, 14799, 164, 1);
        checks.due("weld with the last", x.weld(1), 21099 / 90);
        duePart(x, 1, 9, 10, 21099, 234, 3);
        checks.due("all blows stay", x.value(4), 1);
        checks.unchanged("the last part", x, INDEX, () -> x.weld(1));
        checks.due("undo of weld", x.undo(), 3);
        duePart(x, 1, 9, 10, 6300, 70, 2);
        duePart(x, 2, 9, 10, 14799, 164, 1);
        for (int part : OUTSIDE) {
            checks.unchanged("no such part", x, INDEX, () -> x.weld(part));
        }
        weldOfOtherBlows();
        x.take(20, 20, 40000);
        x.cut(0, 50);
        x.blow(0, 0, 1);
        x.blow(1, 0, 2);
        checks.due("the same width", x.part(0, 0), x.part(1, 0));
        checks.unchanged("other heights", x, STATE, () -> x.weld(0));
        x.take(20, 20, 40000);
        x.cut(0, 50);
        x.blow(0, 1, 1);
        x.blow(1, 1, 2);
        checks.due("the same height", x.part(0, 1), x.part(1, 1));
        checks.unchanged("other widths", x, STATE, () -> x.weld(0));
        x.pause(30);
        checks.unchanged("the last part, cold", x, INDEX, () -> x.weld(1));
    }

    /** Parts come to the same section by blows of their own. */
    private void weldOfOtherBlows() {
        BarForger x = taken(20, 20, 8000);
        x.cut(0, 5);
        x.blow(1, 2, 1);
        x.blow(1, 2, 1);
        x.cut(1, 4);
        x.blow(0, 2, 2);
        duePart(x, 0, 22, 22, 2000, 4, 2);
        checks.due("weld of all but the last", x.weld(0), 3936 / 484);
        duePart(x, 0, 22, 22, 3936, 8, 4);
        checks.due("weld of all", x.weld(0), 8000 / 484);
        duePart(x, 0, 22, 22, 8000, 16, 6);
        x.undo();
        x.blow(0, 2, 3);
        x.blow(1, 2, 3);
        checks.due("blows by themselves", x.weld(0), 8000 / 625);
        duePart(x, 0, 25, 25, 8000, 12, 4 + 3 + 2 + 3);
        checks.due("all blows", x.value(4), 10);
    }

    private void weldWarmth() {
        BarForger x = new BarForger();
        x.blow(0, 1, 4);
        x.cut(0, 100);
        x.pause(5);
        checks.due("the warmth", x.value(1), 1102);
        checks.due("a weld at 1102", x.weld(0), 400000 / (x.part(0, 0) * x.part(0, 1)));
        BarForger cold = new BarForger();
        cold.blow(0, 1, 1);
        cold.cut(0, 100);
        cold.pause(7);
        checks.due("the warmth", cold.value(1), 1098);
        checks.unchanged("a weld at 1098", cold, STATE, () -> cold.weld(0));
        cold.heat();
        checks.due("a weld behind a heat", cold.weld(0), (400000 - 1476 - 2523) / (36 * 41));
        BarForger great = taken(100, 100, 9000000);
        great.cut(0, 400);
        checks.due("a weld of the greatest volume", great.weld(0), 900);
    }

    private void crop() {
        BarForger x = new BarForger();
        checks.unchanged("the only part", x, STATE, x::crop);
        x.cut(0, 100);
        x.cut(1, 40);
        checks.due("crop", x.crop(), 400000 - 140 * 1600);
        dueValues(x, 2, 1250, 10, 0, 0, 224000, 0, 176000, 140);
        checks.dueDouble("kept", x.kept(), 0.56);
        checks.due("crop again", x.crop(), 64000);
        checks.due("cropped in all", x.value(7), 240000);
        checks.unchanged("the only part again", x, STATE, x::crop);
        checks.due("undo of crop", x.undo(), 3);
        checks.due("cropped before", x.value(7), 176000);
        duePart(x, 1, 40, 40, 64000, 40);
    }

    private void forge() {
        BarForger x = new BarForger();
        checks.due("a wish that fits", x.forge(0, 45, 35, 5), 0);
        duePart(x, 0, 40, 40, 400000, 250, 0);
        checks.due("forge", x.forge(0, 30, 30, 2), 8);
        checks.due("the blows", x.value(4), 8);
        checks.due("the blows of the part", x.part(0, 4), 8);
        checks.due("the warmth", x.value(1), 1250 - 8 * 12);
        checks.holds("it fits", Math.abs(x.part(0, 0) - 30) <= 2 && Math.abs(x.part(0, 1) - 30) <= 2);
        checks.due("undo of forge", x.undo(), 1);
        checks.due("a wish that is not square", x.forge(0, 41, 36, 0), 1);
        duePart(x, 0, 41, 36, 400000, 271, 1);
        x.undo();
        checks.due("no blows", x.value(4), 0);
        BarForger cold = new BarForger();
        cold.pause(60);
        checks.due("a fitting wish, cold", cold.forge(0, 40, 40, 0), 0);
        checks.due("needs no heat", cold.value(3), 0);
        checks.due("forge cold", cold.forge(0, 30, 30, 2), 8);
        dueValues(cold, 1, 1250 - 96, 10, 1, 8, 396000, 4000);
        BarForger at = new BarForger();
        at.pause(20);
        checks.due("forge at 850", at.forge(0, 30, 30, 2), 8);
        dueValues(at, 1, 1250 - 7 * 12, 10, 1, 8, 396000, 4000);
        BarForger far = new BarForger();
        int blows = far.way(0, 5, 5, 0);
        checks.holds("a far wish", blows > 34 && blows <= 60);
        checks.due("forge far", far.forge(0, 5, 5, 0), blows);
        dueValues(far, 1, 1250 - (blows - 34) * 12, 10, 1, blows, 396000, 4000);
    }

    /** With 3465 of the volume a last upset of 59 by 59 would not be possible; it is carried out all the same. */
    private void forgeBeyondScale() {
        BarForger x = taken(20, 20, 3500);
        checks.due("a way of upsets", x.way(0, 60, 60, 0), 40);
        checks.due("forge", x.forge(0, 60, 60, 0), 40);
        duePart(x, 0, 60, 60, 3465, 0, 40);
        dueValues(x, 1, 1250 - 6 * 12, 10, 1, 40, 3465, 35);
        BarForger two = taken(20, 20, 7900);
        two.cut(0, 10);
        two.setScale(50);
        checks.due("forge of a part", two.forge(1, 60, 60, 0), 40);
        duePart(two, 0, 20, 20, 3800, 9, 0);
        duePart(two, 1, 60, 60, 3705, 1, 40);
    }

    private void forgeRefusals() {
        BarForger x = new BarForger();
        checks.unchanged("no way", x, STATE, () -> x.forge(0, 100, 5, 0));
        for (int part : OUTSIDE) {
            checks.unchanged("no such part", x, INDEX, () -> x.forge(part, 30, 30, 0));
            checks.unchanged("no such part, wrong wish", x, INDEX, () -> x.forge(part, 4, 30, 0));
        }
        checks.index("behind the last part", () -> x.forge(1, 30, 30, 0));
        int[][] wrong = {{4, 30, 0}, {101, 30, 0}, {30, 4, 0}, {30, 101, 0}, {30, 30, -1}, {30, 30, 10},
            {Integer.MIN_VALUE, 30, 0}, {30, Integer.MAX_VALUE, 0}, {30, 30, Integer.MAX_VALUE}};
        for (int[] w : wrong) {
            checks.unchanged("a wrong wish", x, ARGUMENT, () -> x.forge(0, w[0], w[1], w[2]));
        }
        checks.unchanged("a wrong wish without a way", x, ARGUMENT, () -> x.forge(0, 100, 5, 10));
    }

    private void part() {
        BarForger x = taken(20, 20, 8000);
        x.pause(60);
        duePart(x, 0, 20, 20, 8000, 20, 0, 1, 1, 1, 0);
        x.tellStep(22, 18, 2, 20);
        checks.due("fits at the tolerance and the least length", x.part(0, 8), 1);
        x.clearSteps();
        x.tellStep(22, 18, 2, 21);
        checks.due("too short", x.part(0, 8), 0);
        x.clearSteps();
        x.tellStep(23, 20, 2, 0);
        checks.due("the width is too far", x.part(0, 8), 0);
        x.clearSteps();
        x.tellStep(20, 17, 2, 0);
        checks.due("the height is too far", x.part(0, 8), 0);
        x.clearSteps();
        BarForger flat = taken(30, 20, 8000);
        flat.tellStep(30, 20, 0, 0);
        checks.due("fits, not square", flat.part(0, 8), 1);
        flat.take(20, 30, 8000);
        checks.due("turned, it does not fit", flat.part(0, 8), 0);
        x.tellStep(18, 22, 2, 0);
        x.cut(0, 5);
        checks.due("the first part", x.part(0, 8), 1);
        checks.due("a part without a step", x.part(1, 8), 0);
        for (int part : OUTSIDE) {
            checks.unchanged("no such part", x, INDEX, () -> x.part(part, 0));
            checks.index("no such part, wrong what", () -> x.part(part, 9));
        }
        checks.index("behind the last part", () -> x.part(2, 0));
        for (int what : new int[] {-1, 9, Integer.MIN_VALUE, Integer.MAX_VALUE}) {
            checks.unchanged("a wrong what", x, ARGUMENT, () -> x.part(0, what));
        }
        long before = x.digest();
        x.part(1, 3);
        checks.due("part changes nothing", x.digest(), before);
    }

    private void value() {
        BarForger x = new BarForger();
        x.blow(0, 0, 2);
        x.pause(3);
        x.cut(0, 50);
        x.setScale(4);
        x.heat();
        x.blow(0, 1, 5);
        x.crop();
        x.tellStep(30, 30, 1, 1);
        int left = x.part(0, 2);
        dueValues(x, 1, 1250 - 60, 4, 1, 7, left, 1599, 400000 - 1599 - left, x.part(0, 3), 1, 0, 29);
        x.pause(17);
        checks.due("the warmth", x.value(1), 850);
        checks.due("blows at 850", x.value(11), 1);
        x.pause(1);
        checks.due("blows below 850", x.value(11), 0);
        x.pause(60);
        checks.due("blows at 20", x.value(11), 0);
        for (int what : new int[] {-1, 12, Integer.MIN_VALUE, Integer.MAX_VALUE}) {
            checks.unchanged("a wrong what", x, ARGUMENT, () -> x.value(what));
        }
        x.heat();
        int[] blows = {34, 32, 31, 29, 27, 26, 24, 22, 21, 19, 17, 16, 14, 12, 11, 9, 7, 6, 4, 2, 1};
        for (int minutes = 0; minutes < blows.length; minutes++) {
            checks.due("blows behind " + minutes + " minutes", x.value(11), blows[minutes]);
            x.pause(1);
        }
    }

    private void valueRight() {
        BarForger x = new BarForger();
        checks.due("not right without steps", x.value(10), 0);
        x.tellStep(40, 40, 0, 100);
        checks.due("right", x.value(10), 1);
        x.tellStep(40, 40, 0, 150);
        checks.due("fewer parts than steps", x.value(10), 0);
        x.cut(0, 100);
        checks.due("right with two", x.value(10), 1);
        x.cut(1, 150 - 1);
        checks.due("more parts than steps", x.value(10), 0);
        x.crop();
        checks.due("the last is too short", x.value(10), 0);
        x.undo();
        x.undo();
        x.blow(0, 0, 1);
        checks.due("the first does not fit", x.value(10), 0);
        x.undo();
        checks.due("right again", x.value(10), 1);
    }
}
