/** Edges of the sentences of promises 1 to 12. */
final class BarEdges {
    private final Edges edges;

    BarEdges(Edges edges) {
        this.edges = edges;
    }

    void run() {
        newObject();
        take();
        takeKeeps();
        setScale();
        blowArguments();
        blowTooMany();
        heat();
        pause();
        cutArguments();
        cutRefused();
        cutParts();
        weldArguments();
        weldRefused();
        weldParts();
        crop();
        forgeArguments();
        forgeRefused();
        partArguments();
        partBlows();
        partAnswers();
        valueArguments();
        valueLengths();
        valueRightAndBlows();
        questions();
    }

    private static Edges.Setup cold() {
        return x -> x.pause(60);
    }

    /** The greatest bar of one part, in so many parts: all but the last are 100 long. */
    private static Edges.Setup inParts(int parts) {
        return x -> {
            x.take(10, 10, 9000000);
            for (int part = 0; part < parts - 1; part++) {
                x.cut(part, 100);
            }
        };
    }

    private static int sides(BarForger x, int part) {
        return x.part(part, 0) * 1000 + x.part(part, 1);
    }

    private void newObject() {
        edges.says("Promise 1", "Creates a smithy with the first bar, without steps.");
        int[] values = {1, 1250, 10, 0, 0, 400000, 0, 0, 250, 0, 0, 34};
        edges.range(Edges.NEW, 0, 11, BarForger::value, what -> values[what]);
        for (int what = 0; what < values.length; what++) {
            int at = what;
            edges.due(Edges.NEW, x -> x.value(at), values[at]);
        }
        edges.due(Edges.NEW, x -> sides(x, 0), 40040);
        edges.due(Edges.NEW, x -> x.part(0, 2), 400000);
        edges.refused(Edges.NEW, x -> x.part(1, 0), Edges.INDEX);
        edges.refused(Edges.NEW, x -> x.step(0, 0), Edges.INDEX);
        edges.refused(Edges.NEW, BarForger::undo, Edges.STATE);
        edges.due(Edges.NEW, BarForger::clearText, 0);
        edges.due(Edges.NEW, BarForger::kept, 1.0);
    }

    private void take() {
        edges.says("Promise 2", "width: 5 to 100");
        edges.range(Edges.BUSY, 5, 100, (x, width) -> x.take(width, 7, 9000000), width -> 9000000 / (width * 7));
        edges.says("Promise 2", "height: 5 to 100");
        edges.range(Edges.BUSY, 5, 100, (x, height) -> x.take(7, height, 9000000), height -> 9000000 / (height * 7));
        edges.says("Promise 2", "volume: 1 to 9000000");
        edges.range(Edges.BUSY, 1, 9000000, (x, volume) -> x.take(5, 5, volume), volume -> volume / 25);
        edges.range(Edges.NEW, 1, 9000000, (x, volume) -> x.take(100, 100, volume), volume -> volume / 10000);
        edges.says("Promise 2", "Returns its length.");
        edges.due(Edges.BUSY, x -> x.take(20, 30, 599), 0);
        edges.due(Edges.BUSY, x -> x.take(20, 30, 600), 1);
        edges.due(Edges.BUSY, x -> x.take(20, 30, 601), 1);
        edges.says("Promise 2", "Throws IllegalArgumentException if an argument is out of range");
        edges.refused(Edges.BUSY, x -> x.take(4, 4, 0), Edges.ARGUMENT);
        edges.refused(Edges.BUSY, x -> x.take(101, 101, 9000001), Edges.ARGUMENT);
        edges.refused(Edges.NEW, x -> x.take(-5, -5, 25), Edges.ARGUMENT);
    }

    private void takeKeeps() {
        edges.says("Promise 2", "Takes a new bar of one part, warm, in place of the bar; all counts are 0. Steps and "
                + "scale stay. Undoable.");
        Edges.Setup again = Edges.all(Edges.BUSY, x -> x.take(5, 6, 3000));
        int[] values = {1, 1250, 13, 0, 0, 3000, 0, 0, 100, 2, 0, 34};
        for (int what = 0; what < values.length; what++) {
            int at = what;
            edges.due(again, x -> x.value(at), values[at]);
        }
        edges.due(again, x -> x.part(0, 4), 0);
        edges.refused(again, x -> x.part(1, 4), Edges.INDEX);
        edges.due(again, BarForger::kept, 1.0);
        edges.due(again, x -> x.step(1, 0), 18);
        edges.undoable(Edges.CALM, x -> x.take(5, 6, 3000));
    }

    private void setScale() {
        edges.says("Promise 3", "scale: 0 to 50");
        edges.range(Edges.BUSY, 0, 50, BarForger::setScale, scale -> 13);
        edges.range(Edges.NEW, 0, 50, BarForger::setScale, scale -> 10);
        edges.says("Promise 3", "Returns the previous scale.");
        edges.range(Edges.NEW, 0, 50, (x, scale) -> x.setScale(scale) * 0 + x.setScale(7), scale -> scale);
        edges.says("Promise 3", "Throws IllegalArgumentException if scale is out of range");
        edges.outside(cold(), 0, 50, BarForger::setScale, Edges.ARGUMENT);
        edges.says("Promise 3", "Sets the scale. Undoable.");
        edges.range(Edges.NEW, 0, 50, (x, scale) -> x.setScale(scale) * 0 + x.heat(), scale -> 400 * scale);
        edges.undoable(Edges.CALM, x -> x.setScale(0));
    }

    private void blowArguments() {
        edges.says("Promise 4", "part: number of a part");
        edges.indices(Edges.BUSY, 3, (x, part) -> x.blow(part, 0, 1), part -> part == 0 ? 32 : 44);
        edges.indices(Edges.NEW, 1, (x, part) -> x.blow(part, 0, 1), part -> 271);
        edges.says("Promise 4", "kind: 0 draw, 1 draw turned, 2 upset");
        Edges.Setup small = Edges.taken(20, 20, 8000);
        int[] sides = {20018, 18020, 21021};
        edges.range(small, 0, 2, (x, kind) -> x.blow(0, kind, 1) * 0 + sides(x, 0), kind -> sides[kind]);
        edges.outside(Edges.BUSY, 0, 2, (x, kind) -> x.blow(0, kind, 1), Edges.ARGUMENT);
        edges.says("Promise 4", "blows: 1 to 60");
        edges.due(small, x -> x.blow(0, 2, 1), 8000 / 441);
        edges.due(small, x -> x.blow(0, 2, 2), 8000 / 484);
        edges.refused(small, x -> x.blow(0, 2, 59), Edges.STATE);
        edges.refused(small, x -> x.blow(0, 2, 60), Edges.STATE);
        edges.outside(small, 1, 60, (x, blows) -> x.blow(0, 2, blows), Edges.ARGUMENT);
        edges.outside(Edges.BUSY, 1, 60, (x, blows) -> x.blow(2, 1, blows), Edges.ARGUMENT);
        edges.says("Promise 4", "Throws IndexOutOfBoundsException if there is no such part");
        edges.outside(Edges.BUSY, 0, 2, (x, part) -> x.blow(part, 3, 61), Edges.INDEX);
        edges.outside(Edges.all(Edges.BUSY, cold()), 0, 2, (x, part) -> x.blow(part, 0, 1), Edges.INDEX);
        edges.says("Promise 4", "Throws IllegalArgumentException if kind or blows is out of range");
        edges.outside(cold(), 0, 2, (x, kind) -> x.blow(0, kind, 1), Edges.ARGUMENT);
        edges.outside(cold(), 1, 60, (x, blows) -> x.blow(0, 0, blows), Edges.ARGUMENT);
        edges.refused(cold(), x -> x.blow(0, 3, 0), Edges.ARGUMENT);
    }

    private void blowTooMany() {
        edges.says("Promise 4", "Throws IllegalStateException if one of the blows would not be possible (for want of "
                + "warmth, too)");
        Edges.Setup flat = Edges.taken(50, 10, 5000);
        edges.due(flat, x -> x.blow(0, 0, 4), 16);
        edges.due(flat, x -> x.blow(0, 0, 5), 20);
        edges.refused(flat, x -> x.blow(0, 0, 6), Edges.STATE);
        Edges.Setup thin = Edges.taken(10, 50, 5000);
        edges.due(thin, x -> x.blow(0, 1, 5), 20);
        edges.refused(thin, x -> x.blow(0, 1, 6), Edges.STATE);
        Edges.Setup wide = Edges.taken(99, 40, 99 * 40);
        edges.due(wide, x -> x.blow(0, 0, 1) * 0 + sides(x, 0), 100036);
        edges.refused(wide, x -> x.blow(0, 0, 2), Edges.STATE);
        Edges.Setup great = Edges.taken(98, 98, 10000);
        edges.due(great, x -> x.blow(0, 2, 2) * 0 + sides(x, 0), 100100);
        edges.refused(great, x -> x.blow(0, 2, 3), Edges.STATE);
        edges.due(Edges.taken(20, 20, 440), x -> x.blow(0, 2, 1), 0);
        edges.refused(Edges.taken(20, 20, 440), x -> x.blow(0, 2, 2), Edges.STATE);
        edges.due(Edges.taken(20, 20, 441), x -> x.blow(0, 2, 2) * 0 + sides(x, 0), 22022);
        Edges.Setup hot = Edges.taken(12, 12, 5300);
        edges.due(hot, x -> x.blow(0, 2, 33), 5300 / (45 * 45));
        edges.due(hot, x -> x.blow(0, 2, 34), 5300 / (46 * 46));
        edges.refused(hot, x -> x.blow(0, 2, 35), Edges.STATE);
        edges.says("Promise 4", "Gives blows on a part, all alike. Undoable.");
        edges.due(Edges.BUSY, x -> x.blow(1, 1, 2) * 0 + sides(x, 0), 20020);
        edges.due(Edges.BUSY, x -> x.blow(1, 1, 2) * 0 + sides(x, 1), 17020);
        edges.due(Edges.BUSY, x -> x.blow(1, 1, 2) * 0 + sides(x, 2), 20020);
        edges.undoable(Edges.CALM, x -> x.blow(1, 1, 2));
        edges.says("Promise 4", "Returns the length of the part then.");
        edges.due(Edges.taken(20, 20, 20 * 18 - 1), x -> x.blow(0, 0, 1), 0);
        edges.due(Edges.taken(20, 20, 20 * 18), x -> x.blow(0, 0, 1), 1);
    }

    private void heat() {
        edges.says("Promise 5", "Returns the volume that becomes scale.");
        edges.due(Edges.BUSY, BarForger::heat, 153 + 104 + 208);
        edges.due(Edges.all(Edges.BUSY, x -> x.setScale(0)), BarForger::heat, 0);
        edges.due(Edges.taken(5, 5, 99), BarForger::heat, 0);
        edges.due(Edges.taken(5, 5, 100), BarForger::heat, 1);
        edges.says("Promise 5", "Heats the bar. Undoable.");
        edges.due(cold(), x -> x.heat() * 0 + x.value(1), 1250);
        edges.due(Edges.NEW, x -> x.heat() + x.heat() + x.value(3), 4000 + 3960 + 2);
        edges.due(Edges.NEW, x -> x.heat() * x.heat() * 0 + x.value(6), 4000 + 3960);
        edges.undoable(Edges.CALM, BarForger::heat);
    }

    private void pause() {
        edges.says("Promise 6", "minutes: 1 to 60");
        edges.range(Edges.NEW, 1, 60, BarForger::pause, minutes -> 1250 - 20 * minutes);
        edges.range(Edges.BUSY, 1, 60, BarForger::pause, minutes -> Math.max(20, 1210 - 20 * minutes));
        edges.says("Promise 6", "Returns the warmth then.");
        edges.due(cold(), x -> x.pause(1), 30);
        edges.due(cold(), x -> x.pause(2), 20);
        edges.due(cold(), x -> x.pause(60), 20);
        edges.says("Promise 6", "Throws IllegalArgumentException if minutes is out of range");
        edges.outside(Edges.all(cold(), cold()), 1, 60, BarForger::pause, Edges.ARGUMENT);
        edges.says("Promise 6", "Waits. Undoable.");
        edges.undoable(Edges.CALM, x -> x.pause(60));
    }

    private void cutArguments() {
        edges.says("Promise 7", "part: number of a part");
        edges.indices(Edges.BUSY, 3, (x, part) -> x.cut(part, 1) + x.part(part, 3), part -> 4 + 1);
        edges.says("Promise 7", "length: 1 to 9999");
        edges.range(inParts(1), 1, 9999, (x, length) -> x.cut(0, length) * 0 + x.part(0, 3), length -> length);
        edges.range(inParts(1), 1, 9999, (x, length) -> x.cut(0, length) * 0 + x.part(1, 3), n -> 90000 - n);
        edges.outside(Edges.BUSY, 1, 9999, (x, length) -> x.cut(2, length), Edges.ARGUMENT);
        edges.says("Promise 7", "Throws IndexOutOfBoundsException if there is no such part");
        edges.outside(Edges.BUSY, 0, 2, (x, part) -> x.cut(part, 0), Edges.INDEX);
        edges.outside(inParts(8), 0, 7, (x, part) -> x.cut(part, 10000), Edges.INDEX);
        edges.outside(inParts(8), 0, 7, (x, part) -> x.cut(part, 1), Edges.INDEX);
        edges.says("Promise 7", "Throws IllegalArgumentException if length is out of range");
        edges.outside(inParts(8), 1, 9999, (x, length) -> x.cut(7, length), Edges.ARGUMENT);
        edges.outside(Edges.taken(5, 5, 1), 1, 9999, (x, length) -> x.cut(0, length), Edges.ARGUMENT);
    }

    private void cutRefused() {
        edges.says("Promise 7", "Throws IllegalStateException if the bar has 8 parts, or the part is not longer");
        edges.due(inParts(6), x -> x.cut(5, 1), 7);
        edges.due(inParts(7), x -> x.cut(6, 1), 8);
        edges.refused(inParts(8), x -> x.cut(7, 1), Edges.STATE);
        edges.refused(inParts(8), x -> x.cut(0, 1), Edges.STATE);
        edges.refused(inParts(8), x -> x.cut(0, 9999), Edges.STATE);
        edges.due(Edges.NEW, x -> x.cut(0, 248), 2);
        edges.due(Edges.NEW, x -> x.cut(0, 249), 2);
        edges.refused(Edges.NEW, x -> x.cut(0, 250), Edges.STATE);
        edges.refused(Edges.NEW, x -> x.cut(0, 251), Edges.STATE);
        edges.refused(Edges.NEW, x -> x.cut(0, 9999), Edges.STATE);
        edges.refused(Edges.taken(10, 10, 25099), x -> x.cut(0, 250), Edges.STATE);
        edges.due(Edges.taken(10, 10, 25100), x -> x.cut(0, 250), 2);
        edges.refused(Edges.taken(10, 10, 99), x -> x.cut(0, 1), Edges.STATE);
        edges.refused(Edges.taken(10, 10, 199), x -> x.cut(0, 1), Edges.STATE);
        edges.due(Edges.taken(10, 10, 200), x -> x.cut(0, 1), 2);
        edges.says("Promise 7", "Returns the number of parts then.");
        edges.due(inParts(1), x -> x.cut(0, 1), 2);
        edges.due(inParts(7), x -> x.cut(0, 1), 8);
    }

    private void cutParts() {
        edges.says("Promise 7", "Cuts a part in two: a first part of this length, with the volume length * width * "
                + "height, and the rest behind it. Undoable.");
        edges.due(Edges.taken(10, 10, 25199), x -> x.cut(0, 250) * 0 + x.part(0, 2), 25000);
        edges.due(Edges.taken(10, 10, 25199), x -> x.cut(0, 250) * 0 + x.part(1, 2), 199);
        edges.due(Edges.taken(10, 10, 25199), x -> x.cut(0, 250) * 0 + x.part(1, 3), 1);
        int[][] lengths = {{7, 22, 20, 40}, {29, 7, 13, 40}, {29, 20, 7, 33}};
        for (int part = 0; part < lengths.length; part++) {
            int cut = part;
            for (int index = 0; index < lengths[cut].length; index++) {
                int shown = index;
                edges.due(Edges.BUSY, x -> x.cut(cut, 7) * 0 + x.part(shown, 3), lengths[cut][shown]);
            }
        }
        edges.due(cold(), x -> x.cut(0, 1), 2);
        edges.undoable(Edges.CALM, x -> x.cut(1, 7));
    }

    private void weldArguments() {
        edges.says("Promise 8", "part: number of a part but the last one");
        edges.indices(Edges.BUSY, 2, BarForger::weld, part -> part == 0 ? 19844 / 400 : 60);
        edges.indices(inParts(2), 1, BarForger::weld, part -> 90000);
        edges.indices(inParts(8), 7, BarForger::weld, part -> part == 0 ? 200 : 89400);
        edges.says("Promise 8", "Throws IndexOutOfBoundsException if there is no such part, or it is the last one");
        edges.outside(Edges.BUSY, 0, 1, BarForger::weld, Edges.INDEX);
        edges.refused(Edges.BUSY, x -> x.weld(3), Edges.INDEX);
        edges.refused(Edges.NEW, x -> x.weld(0), Edges.INDEX);
        edges.refused(Edges.NEW, x -> x.weld(1), Edges.INDEX);
        edges.refused(inParts(8), x -> x.weld(8), Edges.INDEX);
        edges.refused(cold(), x -> x.weld(0), Edges.INDEX);
        edges.refused(Edges.all(Edges.BUSY, cold()), x -> x.weld(2), Edges.INDEX);
    }

    private static Edges.Setup unlike(int kind) {
        return x -> {
            x.take(20, 20, 20000);
            x.cut(0, 20);
            x.blow(1, kind, 1);
        };
    }

    /** The warmth goes by fours: 1102 and 1098 are next to each other. */
    private static Edges.Setup cooled(int blows, int minutes) {
        return x -> {
            x.take(20, 20, 20000);
            x.blow(0, 0, blows);
            x.cut(0, 20);
            x.pause(minutes);
        };
    }

    private void weldRefused() {
        edges.says("Promise 8", "Throws IllegalStateException if their widths or heights are different, the volume "
                + "would be more than 9000000, or the warmth is below 1100");
        edges.due(unlike(0), x -> sides(x, 0) * 0 + sides(x, 1), 20018);
        edges.refused(unlike(0), x -> x.weld(0), Edges.STATE);
        edges.due(unlike(1), x -> sides(x, 1), 18020);
        edges.refused(unlike(1), x -> x.weld(0), Edges.STATE);
        edges.due(unlike(2), x -> sides(x, 1), 21021);
        edges.refused(unlike(2), x -> x.weld(0), Edges.STATE);
        edges.due(Edges.all(unlike(0), x -> x.blow(0, 0, 1)), x -> x.weld(0), 20000 / 360);
        edges.due(Edges.all(unlike(1), x -> x.blow(0, 1, 1)), x -> x.weld(0), 20000 / 360);
        edges.due(Edges.all(unlike(2), x -> x.blow(0, 2, 1)), x -> x.weld(0), 20000 / 441);
        edges.due(cooled(3, 5), x -> x.value(1), 1114);
        edges.due(cooled(4, 5), x -> x.value(1), 1102);
        edges.due(cooled(1, 7), x -> x.value(1), 1098);
        edges.due(cooled(3, 5), x -> x.weld(0), 20000 / (20 * 16));
        edges.due(cooled(4, 5), x -> x.weld(0), 20000 / (20 * 15));
        edges.refused(cooled(1, 7), x -> x.weld(0), Edges.STATE);
        edges.refused(cooled(1, 60), x -> x.weld(0), Edges.STATE);
        edges.due(Edges.all(cooled(1, 60), BarForger::heat), x -> x.value(0) + x.weld(0), 2 + 19800 / 360);
        weldGreatest();
    }

    /** No bar has more than 9000000 in all, so a weld of more cannot come about. */
    private void weldGreatest() {
        for (int volume = 8999999; volume <= 9000000; volume++) {
            int most = volume;
            Edges.Setup great = Edges.all(Edges.taken(100, 100, most), x -> x.cut(0, 450));
            edges.due(great, x -> x.weld(0), most / 10000);
            edges.due(great, x -> x.weld(0) * 0 + x.part(0, 2), most);
        }
    }

    private void weldParts() {
        edges.says("Promise 8", "Welds a part and the one behind it to one part, with both volumes. Undoable.");
        edges.due(Edges.BUSY, x -> x.weld(0) * 0 + x.part(0, 2), 19844);
        edges.due(Edges.BUSY, x -> x.weld(0) * 0 + x.part(1, 2), 16000);
        edges.due(Edges.BUSY, x -> x.weld(1) * 0 + x.part(0, 2), 11844);
        edges.due(Edges.BUSY, x -> x.weld(1) * 0 + x.part(1, 2), 24000);
        edges.due(Edges.BUSY, x -> x.weld(1) * 0 + x.value(0), 2);
        edges.undoable(Edges.CALM, x -> x.weld(0));
        edges.says("Promise 8", "Returns the length of the part then.");
        edges.due(Edges.all(Edges.taken(10, 10, 1299), x -> x.cut(0, 1)), x -> x.weld(0), 12);
        edges.due(Edges.all(Edges.taken(10, 10, 1300), x -> x.cut(0, 1)), x -> x.weld(0), 13);
    }

    private void crop() {
        edges.says("Promise 9", "Throws IllegalStateException if it is the only one");
        edges.refused(Edges.NEW, BarForger::crop, Edges.STATE);
        edges.refused(Edges.all(Edges.BUSY, BarForger::crop, BarForger::crop), BarForger::crop, Edges.STATE);
        edges.refused(Edges.all(Edges.BUSY, x -> x.weld(0), x -> x.weld(0)), BarForger::crop, Edges.STATE);
        edges.due(inParts(2), BarForger::crop, 9000000 - 10000);
        edges.due(inParts(3), BarForger::crop, 9000000 - 20000);
        edges.due(inParts(8), BarForger::crop, 9000000 - 70000);
        edges.says("Promise 9", "Returns its volume.");
        edges.due(Edges.BUSY, BarForger::crop, 16000);
        edges.due(Edges.BUSY, x -> x.crop() + x.crop(), 16000 + 8000);
        edges.due(Edges.BUSY, x -> x.crop() * x.crop() * 0 + x.value(7), 11532 + 16000 + 8000);
        edges.says("Promise 9", "Crops the last part off. Undoable.");
        edges.due(Edges.BUSY, x -> x.crop() * 0 + x.value(0), 2);
        edges.due(Edges.all(Edges.BUSY, cold()), BarForger::crop, 16000);
        edges.undoable(Edges.CALM, BarForger::crop);
    }

    private static Edges.Setup with(int width, int height) {
        return Edges.all(Edges.BUSY, x -> x.take(width, height, 10000));
    }

    private void forgeArguments() {
        edges.says("Promise 10", "part: number of a part");
        edges.indices(Edges.BUSY, 3, (x, part) -> x.forge(part, 20, 18, 0) + sides(x, part), part -> 1 + 20018);
        edges.says("Promise 10", "width: 5 to 100");
        for (int width : new int[] {5, 6, 99, 100}) {
            edges.due(with(width, 40), x -> x.forge(0, width, 40, 0), 0);
        }
        edges.outside(with(5, 40), 5, 100, (x, width) -> x.forge(0, width, 40, 9), Edges.ARGUMENT);
        edges.outside(with(100, 40), 5, 100, (x, width) -> x.forge(0, width, 40, 9), Edges.ARGUMENT);
        edges.says("Promise 10", "height: 5 to 100");
        for (int height : new int[] {5, 6, 99, 100}) {
            edges.due(with(40, height), x -> x.forge(0, 40, height, 0), 0);
        }
        edges.outside(with(40, 5), 5, 100, (x, height) -> x.forge(0, 40, height, 9), Edges.ARGUMENT);
        edges.outside(with(40, 100), 5, 100, (x, height) -> x.forge(0, 40, height, 9), Edges.ARGUMENT);
        edges.says("Promise 10", "tolerance: 0 to 9");
        edges.range(Edges.BUSY, 0, 9, (x, tolerance) -> x.forge(0, 20, 20, tolerance), tolerance -> 0);
        edges.says("Promise 10", "Throws IndexOutOfBoundsException if there is no such part");
        edges.outside(Edges.BUSY, 0, 2, (x, part) -> x.forge(part, 4, 101, -1), Edges.INDEX);
        edges.outside(Edges.NEW, 0, 0, (x, part) -> x.forge(part, 100, 5, 0), Edges.INDEX);
        edges.says("Promise 10", "Throws IllegalArgumentException if width, height or tolerance is out of range");
        edges.outside(Edges.NEW, 0, 9, (x, tolerance) -> x.forge(0, 100, 5, tolerance), Edges.ARGUMENT);
        edges.refused(Edges.NEW, x -> x.forge(0, 101, 4, 10), Edges.ARGUMENT);
    }

    private void forgeRefused() {
        edges.says("Promise 10", "Throws IllegalStateException if there is no way of at most 60 blows");
        edges.refused(Edges.NEW, x -> x.forge(0, 100, 5, 9), Edges.STATE);
        edges.refused(Edges.BUSY, x -> x.forge(2, 100, 100, 0), Edges.STATE);
        Edges.Setup small = Edges.taken(12, 12, 5300);
        edges.due(small, x -> x.forge(0, 71, 71, 0), 59);
        edges.due(small, x -> x.forge(0, 72, 72, 0), 60);
        edges.refused(small, x -> x.forge(0, 73, 73, 0), Edges.STATE);
        edges.refused(Edges.all(small, cold()), x -> x.forge(0, 73, 73, 0), Edges.STATE);
        edges.says("Promise 10", "Returns the number of blows.");
        edges.due(Edges.NEW, x -> x.forge(0, 40, 40, 0), 0);
        edges.due(Edges.NEW, x -> x.forge(0, 41, 36, 0), 1);
        edges.due(cold(), x -> x.forge(0, 41, 36, 0), 1);
        edges.due(Edges.NEW, x -> x.forge(0, 5, 5, 0) * 0 + x.value(4), 47);
        edges.says("Promise 10", "Forges a part to a wish. Undoable.");
        edges.due(Edges.BUSY, x -> x.forge(1, 18, 18, 0) * 0 + sides(x, 1), 18018);
        edges.due(Edges.BUSY, x -> x.forge(1, 18, 18, 0) * 0 + sides(x, 2), 20020);
        edges.due(Edges.BUSY, x -> x.forge(1, 18, 18, 0) * 0 + x.part(1, 4), 2 + 2);
        edges.undoable(Edges.CALM, x -> x.forge(1, 18, 18, 0));
        edges.undoable(Edges.all(Edges.CALM, cold()), x -> x.forge(1, 18, 18, 0));
    }

    private void partArguments() {
        edges.says("Promise 11", "part: number of a part");
        edges.indices(Edges.BUSY, 3, (x, part) -> x.part(part, 3), part -> part == 0 ? 29 : 40);
        edges.indices(Edges.NEW, 1, (x, part) -> x.part(part, 3), part -> 250);
        edges.indices(inParts(8), 8, (x, part) -> x.part(part, 3), part -> part == 0 ? 100 : 89300);
        edges.says("Promise 11", "what: 0 its width, 1 its height, 2 its volume, 3 its length");
        int[] answers = {20, 20, 11844, 29, 2, 1, 1, 1, 1};
        edges.range(Edges.BUSY, 0, 8, (x, what) -> x.part(0, what), what -> answers[what]);
        for (int what = 0; what < answers.length; what++) {
            int at = what;
            edges.due(Edges.BUSY, x -> x.part(0, at), answers[at]);
        }
        edges.says("Promise 11", "Throws IndexOutOfBoundsException if there is no such part");
        edges.outside(Edges.BUSY, 0, 2, (x, part) -> x.part(part, 9), Edges.INDEX);
        edges.outside(Edges.NEW, 0, 0, (x, part) -> x.part(part, -1), Edges.INDEX);
        edges.says("Promise 11", "Throws IllegalArgumentException if what is out of range");
        edges.outside(Edges.NEW, 0, 8, (x, what) -> x.part(0, what), Edges.ARGUMENT);
    }

    private void partBlows() {
        edges.says("Promise 11", "behind cut() both have those of the whole, behind weld() it has those of both "
                + "together");
        Edges.Setup three = Edges.all(Edges.taken(20, 20, 20000), x -> x.blow(0, 0, 3));
        edges.due(three, x -> x.cut(0, 10) * 0 + x.part(0, 4) * 100 + x.part(1, 4), 303);
        edges.due(three, x -> x.cut(0, 10) * 0 + x.weld(0) * 0 + x.part(0, 4), 6);
        edges.due(three, x -> x.cut(0, 10) * 0 + x.weld(0) * 0 + x.value(4), 3);
        edges.due(Edges.taken(20, 20, 20000), x -> x.cut(0, 10) * 0 + x.weld(0) * 0 + x.part(0, 4), 0);
        Edges.Setup unlike = Edges.all(three, x -> x.cut(0, 10), x -> x.cut(1, 10));
        edges.due(unlike, x -> x.weld(0) * 0 + x.part(0, 4) * 100 + x.part(1, 4), 603);
        edges.due(unlike, x -> x.weld(1) * 0 + x.part(0, 4) * 100 + x.part(1, 4), 306);
        edges.due(unlike, x -> x.weld(0) * 0 + x.weld(0) * 0 + x.part(0, 4), 9);
        edges.due(unlike, x -> x.weld(1) * 0 + x.weld(0) * 0 + x.part(0, 4), 9);
        edges.due(three, x -> doubled(x, 29), 3 << 29);
        edges.due(Edges.all(Edges.taken(20, 20, 20000), x -> x.blow(0, 0, 1)), x -> doubled(x, 30), 1 << 30);
        edges.due(three, x -> doubled(x, 29) * 0L + Digests.of(x, 0, 4) - x.digest(), 0L);
    }

    /** The blows on part 0 behind so many cuts and welds, each of which doubles them. */
    private static int doubled(BarForger x, int times) {
        for (int time = 0; time < times; time++) {
            x.cut(0, 10);
            x.weld(0);
        }
        return x.part(0, 4);
    }

    private void partAnswers() {
        edges.says("Promise 11", "5 1 if a draw, 6 a draw turned, 7 an upset would be possible but for warmth, "
                + "otherwise 0");
        for (int what = 5; what <= 7; what++) {
            int at = what;
            edges.due(Edges.all(Edges.BUSY, cold()), x -> x.part(0, at), 1);
            edges.due(Edges.taken(5, 5, 5 * 5 * 15), x -> x.part(0, at), at == 7 ? 1 : 0);
            edges.due(Edges.taken(5, 5, 5 * 5 * 16), x -> x.part(0, at), 0);
            edges.due(Edges.taken(6, 5, 30 * 15), x -> x.part(0, at), at == 5 ? 0 : 1);
            edges.due(Edges.taken(5, 6, 30 * 15), x -> x.part(0, at), at == 6 ? 0 : 1);
        }
        edges.says("Promise 11", "8 1 if it fits its step's wish and is long enough, otherwise 0 (0 without a step)");
        edges.due(Edges.BUSY, x -> x.part(0, 8), 1);
        edges.due(Edges.BUSY, x -> x.part(1, 8), 0);
        edges.due(Edges.BUSY, x -> x.part(2, 8), 0);
        edges.due(Edges.all(Edges.BUSY, BarForger::clearSteps), x -> x.part(0, 8), 0);
        for (int length = 28; length <= 30; length++) {
            int least = length;
            Edges.Setup one = Edges.all(Edges.BUSY, BarForger::clearSteps, x -> x.tellStep(20, 20, 0, least));
            edges.due(one, x -> x.part(0, 8), least <= 29 ? 1 : 0);
        }
        edges.says("Promise 11", "Returns that value.");
        edges.question(Edges.BUSY, x -> x.part(2, 8));
        edges.question(Edges.BUSY, x -> x.part(2, 7));
    }

    private void valueArguments() {
        edges.says("Promise 12", "what: 0 the parts, 1 the warmth, 2 the scale, 3 the heats so far, 4 all blows so "
                + "far, 5 the volume of all parts, 6 the volume that has become scale so far, 7 the volume that has "
                + "been cropped so far, 8 the length of all parts, 9 the steps");
        int[] answers = {3, 1210, 13, 1, 2, 35844, 624, 11532, 89, 2, 0, 31};
        edges.range(Edges.BUSY, 0, 11, BarForger::value, what -> answers[what]);
        for (int what = 0; what < answers.length; what++) {
            int at = what;
            edges.due(Edges.BUSY, x -> x.value(at), answers[at]);
        }
        edges.says("Promise 12", "Throws IllegalArgumentException if what is out of range");
        edges.outside(Edges.NEW, 0, 11, BarForger::value, Edges.ARGUMENT);
        edges.says("Promise 12", "Returns that number.");
        edges.question(Edges.BUSY, x -> x.value(8));
        edges.question(Edges.BUSY, x -> x.value(11));
    }

    private void valueLengths() {
        edges.says("Promise 12", "8 the length of all parts");
        edges.due(Edges.taken(10, 10, 99), x -> x.value(8), 0);
        edges.due(Edges.taken(10, 10, 100), x -> x.value(8), 1);
        edges.due(Edges.all(Edges.taken(10, 10, 20000), x -> x.cut(0, 100), BarForger::heat), x -> x.value(8), 198);
        edges.due(Edges.all(Edges.taken(10, 10, 30100), x -> x.cut(0, 150), BarForger::heat), x -> x.value(8),
                148 + 149);
        edges.due(Edges.all(Edges.taken(10, 10, 30100), BarForger::heat), x -> x.value(8), 297);
        edges.due(Edges.all(Edges.taken(10, 10, 30150), x -> x.cut(0, 150), BarForger::heat), x -> x.value(8),
                148 + 149);
        edges.due(Edges.all(Edges.taken(10, 10, 30150), BarForger::heat), x -> x.value(8), 298);
        edges.due(Edges.taken(5, 5, 9000000), x -> x.value(8), 360000);
    }

    private void valueRightAndBlows() {
        edges.says("Promise 12", "10 1 if the bar is right, otherwise 0");
        edges.due(Edges.NEW, x -> x.value(10), 0);
        edges.due(Edges.all(Edges.NEW, x -> x.tellStep(40, 40, 0, 250)), x -> x.value(10), 1);
        edges.due(Edges.all(Edges.NEW, x -> x.tellStep(40, 40, 0, 251)), x -> x.value(10), 0);
        edges.says("Promise 12", "11 the blows that are possible until the next heat (with this warmth)");
        int[] blows = {34, 32, 31, 29, 27, 26, 24, 22, 21, 19, 17, 16, 14, 12, 11, 9, 7, 6, 4, 2, 1, 0, 0};
        for (int minutes = 1; minutes < blows.length; minutes++) {
            int at = minutes;
            edges.due(Edges.NEW, x -> x.pause(at) * 0 + x.value(11), blows[at]);
        }
        edges.due(Edges.all(cold(), cold()), x -> x.value(11), 0);
        edges.due(Edges.all(cold(), BarForger::heat), x -> x.value(11), 34);
    }

    private void questions() {
        edges.says("Promise 11", "Returns something about a part.");
        edges.question(Edges.NEW, x -> x.part(0, 0));
        edges.says("Promise 12", "Returns a number.");
        edges.question(Edges.NEW, x -> x.value(0));
    }
}
