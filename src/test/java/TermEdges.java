/** Edges of the sentences of "Terms", but those of the text, which {@link TextEdges} has. */
final class TermEdges {
    private static final int[] KINDS = {0, 1, 2};

    private final Edges edges;

    TermEdges(Edges edges) {
        this.edges = edges;
    }

    void run() {
        parts();
        sides();
        volumes();
        lengths();
        firstBar();
        warmthAtItsEnds();
        warmthForBlows();
        warmthTaken();
        scaleOfHeats();
        scaleOfParts();
        drawSizes();
        drawLimits();
        upsetSides();
        upsetLengths();
        volumeStays();
        fits();
        waysOfSixty();
        waysWhateverTheWarmth();
        waysOfRows();
        firstOfSeveral();
        heatsAhead();
        wayFoundOnce();
        steps();
        right();
        savedStates();
        savedUnchanged();
        savedAllButText();
        exceptions();
    }

    private void says(String words) {
        edges.says("Terms", words);
    }

    /** A bar of so many parts: all but the last are 10 long, in all 1000. */
    private static Edges.Setup inParts(int parts) {
        return x -> {
            x.take(10, 10, 100000);
            for (int part = 0; part < parts - 1; part++) {
                x.cut(part, 10);
            }
        };
    }

    private void parts() {
        says("A bar has 1 to 8 parts in a row, numbered from 0.");
        edges.due(inParts(6), x -> x.cut(5, 1), 7);
        edges.due(inParts(7), x -> x.cut(6, 1), 8);
        edges.refused(inParts(8), x -> x.cut(7, 1), Edges.STATE);
        edges.due(inParts(3), x -> x.crop() + x.value(0), 98000 + 2);
        edges.due(inParts(2), x -> x.crop() + x.value(0), 99000 + 1);
        edges.refused(inParts(1), BarForger::crop, Edges.STATE);
        edges.indices(inParts(1), 1, (x, part) -> x.part(part, 3), part -> 1000);
        edges.indices(inParts(8), 8, (x, part) -> x.part(part, 3), part -> part == 0 ? 10 : 930);
    }

    private void sides() {
        says("A part has a width and a height, 5 to 100, and a volume, 1 to 9000000");
        edges.range(Edges.NEW, 5, 100, (x, side) -> x.take(side, 50, 1) + x.part(0, 0), side -> side);
        edges.range(Edges.NEW, 5, 100, (x, side) -> x.take(50, side, 1) + x.part(0, 1), side -> side);
        edges.range(Edges.NEW, 1, 9000000, (x, volume) -> x.take(100, 100, volume) + x.part(0, 2),
                volume -> volume / 10000 + volume);
    }

    private void volumes() {
        says("and a volume, 1 to 9000000");
        Edges.Setup most = x -> x.setScale(50);
        edges.due(Edges.all(most, Edges.taken(5, 5, 1)), x -> x.heat() + x.part(0, 2), 1);
        edges.due(Edges.all(most, Edges.taken(5, 5, 9000000)), x -> x.part(0, 2), 9000000);
        edges.due(Edges.all(most, Edges.taken(5, 5, 9000000)), x -> x.cut(0, 9999) + x.value(5), 9000002);
    }

    private void lengths() {
        says("its length is volume / (width * height).");
        int[][] due = {{1, 0}, {1599, 0}, {1600, 1}, {1601, 1}, {3199, 1}, {3200, 2}, {9000000, 5625}};
        for (int[] d : due) {
            edges.due(Edges.NEW, x -> x.take(40, 40, d[0]), d[1]);
            edges.due(Edges.taken(40, 40, d[0]), x -> x.part(0, 3), d[1]);
        }
    }

    private void firstBar() {
        says("The first bar is one part of width 40, height 40 and volume 400000.");
        edges.indices(Edges.NEW, 1, (x, part) -> x.part(part, 0), part -> 40);
        edges.due(Edges.NEW, x -> x.part(0, 1), 40);
        edges.due(Edges.NEW, x -> x.part(0, 2), 400000);
        edges.due(Edges.NEW, x -> x.value(0), 1);
    }

    private void warmthAtItsEnds() {
        says("The bar has a warmth, 20 to 1250, initially 1250.");
        edges.due(Edges.NEW, x -> x.value(1), 1250);
        edges.due(Edges.NEW, x -> x.heat() + x.value(1), 4000 + 1250);
        edges.due(Edges.NEW, x -> x.pause(60), 50);
        edges.due(Edges.NEW, x -> x.pause(60) + x.pause(1), 50 + 30);
        edges.due(Edges.NEW, x -> x.pause(60) + x.pause(2), 50 + 20);
        edges.due(Edges.NEW, x -> x.pause(60) + x.pause(60) + x.pause(60), 50 + 20 + 20);
    }

    /** A bar that can be upset 35 times but for warmth, behind so many upsets and minutes. */
    private static Edges.Setup cooled(int upsets, int minutes) {
        return x -> {
            x.take(20, 20, 10000);
            if (upsets > 0) {
                x.blow(0, 2, upsets);
            }
            if (minutes > 0) {
                x.pause(minutes);
            }
        };
    }

    private void dueBlows(int upsets, int minutes, int warmth, int blows) {
        Edges.Setup setup = cooled(upsets, minutes);
        edges.due(setup, x -> x.value(1), warmth);
        edges.due(setup, x -> x.value(11), blows);
        for (int kind : KINDS) {
            if (blows > 0) {
                edges.due(setup, x -> x.blow(0, kind, blows) * 0 + x.value(1), warmth - 12 * blows);
            }
            edges.refused(setup, x -> x.blow(0, kind, blows + 1), Edges.STATE);
        }
    }

    /** The warmth goes by fours: 854, 850 and 846 are next to each other. */
    private void warmthForBlows() {
        says("Blows are possible only from 850 on.");
        dueBlows(9, 14, 862, 2);
        dueBlows(1, 19, 858, 1);
        dueBlows(8, 15, 854, 1);
        dueBlows(0, 20, 850, 1);
        dueBlows(5, 17, 850, 1);
        dueBlows(2, 19, 846, 0);
        dueBlows(0, 21, 830, 0);
        dueBlows(0, 60, 50, 0);
    }

    private void warmthTaken() {
        says("A blow takes 12 off the warmth, a minute of waiting 20, not below 20.");
        edges.due(Edges.NEW, x -> x.blow(0, 0, 1) * 0 + x.value(1), 1238);
        edges.due(Edges.NEW, x -> x.blow(0, 0, 2) * 0 + x.value(1), 1226);
        edges.due(cooled(0, 20), x -> x.blow(0, 2, 1) * 0 + x.value(1), 838);
        edges.due(Edges.NEW, x -> x.pause(1), 1230);
        edges.due(Edges.NEW, x -> x.pause(2), 1210);
        edges.due(cooled(4, 58), x -> x.value(1), 42);
        edges.due(cooled(4, 58), x -> x.pause(1), 22);
        edges.due(cooled(4, 59), x -> x.pause(1), 20);
        edges.due(cooled(1, 60), x -> x.value(1), 38);
        edges.due(cooled(1, 60), x -> x.pause(1), 20);
        edges.due(cooled(1, 60), x -> x.pause(60) + x.pause(1), 40);
    }

    private static Edges.Setup scaled(int scale, int volume) {
        return x -> {
            x.setScale(scale);
            x.take(40, 40, volume);
        };
    }

    private void scaleOfHeats() {
        says("A heat makes it 1250, and costs scale: each part loses volume * scale / 1000 of its volume");
        int[][] due = {{0, 9000000, 0}, {1, 999, 0}, {1, 1000, 1}, {1, 1001, 1}, {1, 1999, 1}, {1, 2000, 2},
            {49, 20, 0}, {49, 21, 1}, {50, 1, 0}, {50, 19, 0}, {50, 20, 1}, {50, 21, 1}, {50, 39, 1}, {50, 40, 2},
            {49, 9000000, 441000}, {50, 8999999, 449999}, {50, 9000000, 450000}};
        for (int[] d : due) {
            edges.due(scaled(d[0], d[1]), BarForger::heat, d[2]);
            edges.due(scaled(d[0], d[1]), x -> x.heat() * 0 + x.part(0, 2), d[1] - d[2]);
        }
        edges.due(cooled(0, 60), x -> x.heat() * 0 + x.value(1), 1250);
        edges.due(cooled(34, 60), x -> x.heat() * 0 + x.value(1), 1250);
        says("where scale is 0 to 50, initially 10.");
        edges.due(Edges.NEW, x -> x.value(2), 10);
        edges.due(Edges.NEW, x -> x.setScale(0), 10);
        edges.range(Edges.NEW, 0, 50, (x, scale) -> x.setScale(scale) * 0 + x.value(2), scale -> scale);
        edges.due(Edges.taken(40, 40, 99), BarForger::heat, 0);
        edges.due(Edges.taken(40, 40, 100), BarForger::heat, 1);
        edges.due(Edges.taken(40, 40, 101), BarForger::heat, 1);
    }

    /** Two parts of 75 and some more lose nothing where one of both together would lose 1. */
    private void scaleOfParts() {
        says("each part loses volume * scale / 1000 of its volume");
        for (int rest = 98; rest <= 100; rest++) {
            int volume = 75 + rest;
            int loss = rest / 100;
            Edges.Setup two = Edges.all(Edges.taken(5, 5, volume), x -> x.cut(0, 3));
            edges.due(two, BarForger::heat, loss);
            edges.due(two, x -> x.heat() * 0 + x.part(0, 2), 75);
            edges.due(two, x -> x.heat() * 0 + x.part(1, 2), volume - 75 - loss);
        }
        edges.due(Edges.taken(5, 5, 173), BarForger::heat, 1);
    }

    private static int sides(BarForger x) {
        return x.part(0, 0) * 1000 + x.part(0, 1);
    }

    private void drawSizes() {
        int[][] due = {{6, 1, 0}, {9, 1, 0}, {10, 1, 0}, {11, 1, 0}, {19, 1, 0}, {20, 2, 0}, {21, 2, 0}, {29, 2, 0},
            {30, 3, 1}, {31, 3, 1}, {39, 3, 1}, {40, 4, 1}, {59, 5, 1}, {60, 6, 2}, {61, 6, 2}, {89, 8, 2}, {90, 9, 3},
            {91, 9, 3}, {99, 9, 3}, {100, 10, 3}};
        says("With w as its width and h as its height:");
        edges.due(Edges.taken(30, 60, 50000), x -> x.blow(0, 0, 1) * 0 + sides(x), 32054);
        edges.due(Edges.taken(60, 30, 50000), x -> x.blow(0, 1, 1) * 0 + sides(x), 54032);
        for (int[] d : due) {
            says("to draw makes the height h - d and the width w + d / 3, where d is h / 10, but at least 1");
            edges.due(Edges.taken(50, d[0], 50000), x -> x.blow(0, 0, 1) * 0 + sides(x),
                    (50 + d[2]) * 1000 + d[0] - d[1]);
            says("the width becomes w - d and the height h + d / 3, where d is w / 10, but at least 1");
            edges.due(Edges.taken(d[0], 50, 50000), x -> x.blow(0, 1, 1) * 0 + sides(x),
                    (d[0] - d[1]) * 1000 + 50 + d[2]);
        }
    }

    private void dueDraw(int struck, int other, boolean possible) {
        Edges.Setup draw = Edges.taken(other, struck, 20000);
        Edges.Setup turned = Edges.taken(struck, other, 20000);
        says("it is possible if the height is at least 5 then, and the width at most 100;");
        edges.due(draw, x -> x.part(0, 5), possible ? 1 : 0);
        duePossible(draw, 0, possible);
        says("to draw turned is the same with the width and the height exchanged");
        edges.due(turned, x -> x.part(0, 6), possible ? 1 : 0);
        duePossible(turned, 1, possible);
    }

    private void duePossible(Edges.Setup setup, int kind, boolean possible) {
        if (possible) {
            edges.due(setup, x -> x.blow(0, kind, 1) * 0 + x.value(4), 1);
        } else {
            edges.refused(setup, x -> x.blow(0, kind, 1), Edges.STATE);
        }
    }

    private void drawLimits() {
        dueDraw(5, 50, false);
        dueDraw(6, 50, true);
        dueDraw(7, 50, true);
        dueDraw(5, 100, false);
        dueDraw(6, 100, true);
        dueDraw(29, 100, true);
        dueDraw(30, 98, true);
        dueDraw(30, 99, true);
        dueDraw(30, 100, false);
        dueDraw(60, 97, true);
        dueDraw(60, 98, true);
        dueDraw(60, 99, false);
        dueDraw(60, 100, false);
        dueDraw(90, 96, true);
        dueDraw(90, 97, true);
        dueDraw(90, 98, false);
        dueDraw(100, 97, true);
        dueDraw(100, 98, false);
        dueDraw(100, 100, false);
    }

    private void dueUpset(int width, int height, int volume, boolean possible) {
        Edges.Setup setup = Edges.taken(width, height, volume);
        edges.due(setup, x -> x.part(0, 7), possible ? 1 : 0);
        duePossible(setup, 2, possible);
    }

    private void upsetSides() {
        says("to upset makes both greater by 1");
        edges.due(Edges.taken(5, 5, 100), x -> x.blow(0, 2, 1) * 0 + sides(x), 6006);
        edges.due(Edges.taken(99, 99, 10000), x -> x.blow(0, 2, 1) * 0 + sides(x), 100100);
        edges.due(Edges.taken(99, 30, 10000), x -> x.blow(0, 2, 1) * 0 + sides(x), 100031);
        says("it is possible if both are at most 100 then");
        dueUpset(98, 50, 10000, true);
        dueUpset(99, 50, 10000, true);
        dueUpset(100, 50, 10000, false);
        dueUpset(50, 98, 10000, true);
        dueUpset(50, 99, 10000, true);
        dueUpset(50, 100, 10000, false);
        dueUpset(99, 99, 10000, true);
        dueUpset(99, 100, 10000, false);
        dueUpset(100, 99, 10000, false);
        dueUpset(100, 100, 10000, false);
    }

    private void upsetLengths() {
        says("the length before the blow is at most 3 times the smaller one of w and h, and at least 1.");
        int[][] sides = {{20, 20}, {20, 30}, {30, 20}, {5, 5}, {5, 99}, {99, 5}};
        for (int[] s : sides) {
            int area = s[0] * s[1];
            int most = 3 * Math.min(s[0], s[1]);
            dueUpset(s[0], s[1], area * (most - 1), true);
            dueUpset(s[0], s[1], area * most, true);
            dueUpset(s[0], s[1], area * most + area - 1, true);
            dueUpset(s[0], s[1], area * (most + 1), false);
            dueUpset(s[0], s[1], area * (most + 2), false);
            dueUpset(s[0], s[1], 1, false);
            dueUpset(s[0], s[1], area - 1, false);
            dueUpset(s[0], s[1], area, true);
            dueUpset(s[0], s[1], 2 * area, true);
        }
        edges.due(Edges.taken(20, 20, 20 * 20), x -> x.blow(0, 2, 1) + x.part(0, 7), 0);
        edges.due(Edges.taken(20, 20, 21 * 21), x -> x.blow(0, 2, 1) + x.part(0, 7), 2);
    }

    private void volumeStays() {
        says("The volume stays.");
        for (int kind : KINDS) {
            edges.due(Edges.taken(20, 20, 400), x -> x.blow(0, kind, 1) * 0 + x.part(0, 2), 400);
            edges.due(Edges.taken(20, 20, 24399), x -> x.blow(0, kind, 5) * 0 + x.part(0, 2), 24399);
        }
        edges.due(Edges.taken(20, 20, 24399), x -> x.forge(0, 10, 10, 0) * 0 + x.value(5), 24399);
    }

    /** Whether a section of 50 by 60 fits: as its step, and as a wish that needs no blow. */
    private void dueFit(int width, int height, int tolerance, int want) {
        Edges.Setup setup = x -> {
            x.take(50, 60, 3000);
            x.tellStep(width, height, tolerance, 0);
        };
        edges.due(setup, x -> x.part(0, 8), want);
        edges.due(setup, x -> x.value(10), want);
        edges.due(setup, x -> x.way(0, width, height, tolerance) == 0 ? 1 : 0, want);
    }

    private void fits() {
        says("A section fits a wish of width, height and tolerance (0 to 9) if both differ from those of the wish by "
                + "at most the tolerance.");
        for (int tolerance : new int[] {0, 1, 8, 9}) {
            for (int sign : new int[] {-1, 1}) {
                int on = sign * tolerance;
                int outside = sign * (tolerance + 1);
                dueFit(50 + on, 60, tolerance, 1);
                dueFit(50 + outside, 60, tolerance, 0);
                dueFit(50, 60 + on, tolerance, 1);
                dueFit(50, 60 + outside, tolerance, 0);
                dueFit(50 + on, 60 - on, tolerance, 1);
                dueFit(50 + on, 60 - outside, tolerance, 0);
                dueFit(50 - outside, 60 + on, tolerance, 0);
            }
        }
        dueFit(50, 60, 9, 1);
        edges.range(Edges.NEW, 0, 9, (x, tolerance) -> x.tellStep(40, 40, tolerance, 0) + x.step(0, 2), n -> n);
    }

    private void waysOfSixty() {
        says("It is looked for with the volume as it is, whatever the warmth is, with at most 60 blows.");
        Edges.Setup small = Edges.taken(12, 12, 5300);
        edges.due(small, x -> x.way(0, 71, 71, 0), 59);
        edges.due(small, x -> x.way(0, 72, 72, 0), 60);
        edges.due(small, x -> x.way(0, 73, 73, 0), -1);
        edges.due(small, x -> x.way(0, 73, 73, 1), 60);
        edges.due(small, x -> x.way(0, 74, 74, 1), -1);
        edges.due(small, x -> x.forge(0, 71, 71, 0), 59);
        edges.due(small, x -> x.forge(0, 72, 72, 0), 60);
        edges.refused(small, x -> x.forge(0, 73, 73, 0), Edges.STATE);
        edges.due(Edges.taken(13, 13, 5300), x -> x.way(0, 73, 73, 0), 60);
        edges.due(Edges.taken(40, 40, 400000), x -> x.way(0, 41, 41, 0), -1);
    }

    private void waysWhateverTheWarmth() {
        says("whatever the warmth is");
        int[][] cold = {{0, 0}, {0, 20}, {2, 19}, {0, 21}, {0, 60}};
        for (int[] c : cold) {
            Edges.Setup setup = cooled(c[0], c[1]);
            edges.due(setup, x -> x.way(0, 20 + c[0], 18 + c[0], 0), 1);
            edges.due(setup, x -> x.way(0, 21 + c[0], 21 + c[0], 0), 1);
            edges.due(setup, x -> x.blowOf(0, 18 + c[0], 20 + c[0], 0, 0), 1);
        }
    }

    /** The first of all rows of so many blows, of which the section fits and none is impossible; null without one. */
    private static int[] firstRow(Edges.Setup setup, int width, int height, int tolerance, int blows) {
        int rows = 1;
        for (int blow = 0; blow < blows; blow++) {
            rows *= 3;
        }
        for (int row = 0; row < rows; row++) {
            int[] kinds = new int[blows];
            int rest = row;
            for (int at = blows - 1; at >= 0; at--) {
                kinds[at] = rest % 3;
                rest /= 3;
            }
            BarForger x = new BarForger();
            setup.on(x);
            if (fitsBehind(x, kinds, width, height, tolerance)) {
                return kinds;
            }
        }
        return null;
    }

    private static boolean fitsBehind(BarForger x, int[] kinds, int width, int height, int tolerance) {
        for (int kind : kinds) {
            if (Afterlife.answer(() -> x.blow(0, kind, 1)) instanceof Class) {
                return false;
            }
        }
        return Math.abs(x.part(0, 0) - width) <= tolerance && Math.abs(x.part(0, 1) - height) <= tolerance;
    }

    /** All rows of fewer blows are tried ahead of those of more. */
    private void dueRow(Edges.Setup setup, int width, int height, int tolerance, int blows) {
        int[] first = null;
        for (int count = 0; count <= blows && first == null; count++) {
            first = firstRow(setup, width, height, tolerance, count);
        }
        int found = first == null ? -1 : first.length;
        edges.due(setup, x -> x.way(0, width, height, tolerance), blows);
        edges.due(setup, x -> found, blows);
        dueWay(setup, width, height, tolerance, first == null ? new int[0] : first);
    }

    private void waysOfRows() {
        says("The way to a wish is a row of blows on a part behind which its section fits; the shortest way has the "
                + "fewest blows");
        dueRow(Edges.taken(40, 40, 160000), 40, 40, 0, 0);
        dueRow(Edges.taken(40, 40, 160000), 41, 41, 0, 1);
        dueRow(Edges.taken(40, 40, 160000), 36, 39, 2, 1);
        dueRow(Edges.taken(40, 40, 160000), 35, 35, 1, 4);
        dueRow(Edges.taken(8, 9, 72 * 5), 10, 9, 0, 4);
        dueRow(Edges.taken(9, 12, 540), 11, 9, 0, 7);
        dueRow(Edges.taken(95, 97, 95 * 97 * 3), 100, 60, 3, 6);
        dueRow(Edges.taken(8, 8, 320), 6, 6, 0, 4);
        dueRow(Edges.taken(6, 6, 36), 5, 5, 0, 2);
        dueRow(Edges.taken(98, 98, 90000), 100, 100, 0, 2);
        dueRow(Edges.taken(99, 50, 90000), 100, 51, 0, 1);
        dueRow(Edges.taken(50, 99, 90000), 51, 100, 0, 1);
        dueRow(Edges.taken(50, 100, 90000), 56, 81, 0, 2);
        dueRow(Edges.taken(100, 50, 90000), 81, 56, 0, 2);
        dueRow(Edges.taken(5, 30, 90000), 6, 27, 0, 1);
    }

    private void firstOfSeveral() {
        says("of several the first one, where draw comes before draw turned, and that before upset, at the first blow "
                + "in which they differ.");
        edges.due(Edges.taken(40, 40, 160000), x -> x.part(0, 7), 1);
        dueWay(Edges.taken(40, 40, 160000), 44, 39, 3, 0);
        dueWay(Edges.taken(40, 40, 160000), 39, 44, 3, 1);
        dueWay(Edges.taken(40, 40, 160000), 44, 44, 3, 2);
        dueWay(Edges.taken(40, 40, 160000), 44, 39, 4);
        dueWay(Edges.taken(8, 9, 72 * 5), 9, 9, 0, 0, 2);
        dueWay(Edges.taken(9, 8, 72 * 5), 9, 9, 0, 1, 2);
        dueWay(Edges.taken(9, 9, 81 * 5), 8, 8, 0, 0, 1);
        dueWay(Edges.taken(40, 40, 400000), 30, 30, 2, 0, 0, 0, 0, 1, 1, 1, 1);
    }

    private void dueWay(Edges.Setup setup, int width, int height, int tolerance, int... kinds) {
        edges.due(setup, x -> x.way(0, width, height, tolerance), kinds.length);
        for (int index = 0; index < kinds.length; index++) {
            int at = index;
            edges.due(setup, x -> x.blowOf(0, width, height, tolerance, at), kinds[at]);
        }
        edges.due(setup, x -> x.blowOf(0, width, height, tolerance, kinds.length), -1);
    }

    private void dueHeats(Edges.Setup setup, int side, int heats) {
        edges.due(setup, x -> x.heatsTo(0, side, side, 0), heats);
        edges.due(setup, x -> x.forge(0, side, side, 0) * 0 + x.value(3), heats);
        edges.due(Edges.all(setup, x -> x.tellStep(side, side, 0, 0)), BarForger::heatsToSteps, heats);
    }

    /** From 12 by 12 the sides tell the number of the blows, upsets all. */
    private void heatsAhead() {
        says("with a heat ahead of each blow that is not possible for want of warmth.");
        Edges.Setup hot = Edges.taken(12, 12, 5300);
        dueHeats(hot, 12, 0);
        dueHeats(hot, 12 + 33, 0);
        dueHeats(hot, 12 + 34, 0);
        dueHeats(hot, 12 + 35, 1);
        dueHeats(hot, 12 + 60, 1);
        Edges.Setup just = Edges.all(hot, x -> x.pause(20));
        dueHeats(just, 12, 0);
        dueHeats(just, 12 + 1, 0);
        dueHeats(just, 12 + 2, 1);
        dueHeats(just, 12 + 35, 1);
        dueHeats(just, 12 + 36, 2);
        Edges.Setup cold = Edges.all(hot, x -> x.pause(21));
        dueHeats(cold, 12, 0);
        dueHeats(cold, 12 + 1, 1);
        dueHeats(cold, 12 + 34, 1);
        dueHeats(cold, 12 + 35, 2);
        dueHeats(cold, 12 + 60, 2);
    }

    /** The last of 40 upsets, from 59 by 59, needs 3481, of which a heat behind 34 blows may take some. */
    private void wayFoundOnce() {
        says("(The way is found once; its blows are carried out whatever the scale has made of the volume "
                + "meanwhile.)");
        edges.refused(Edges.taken(20, 20, 3480), x -> x.forge(0, 60, 60, 0), Edges.STATE);
        int[][] due = {{3481, 34}, {3515, 35}, {3516, 35}, {3517, 35}};
        for (int[] d : due) {
            Edges.Setup setup = Edges.taken(20, 20, d[0]);
            edges.due(setup, x -> x.forge(0, 60, 60, 0), 40);
            edges.due(setup, x -> x.forge(0, 60, 60, 0) * 0 + sides(x), 60060);
            edges.due(setup, x -> x.forge(0, 60, 60, 0) * 0 + x.part(0, 2), d[0] - d[1]);
            edges.due(setup, x -> x.heatsTo(0, 60, 60, 0), 1);
        }
    }

    private static Edges.Setup told(int steps) {
        return x -> {
            for (int step = 0; step < steps; step++) {
                x.tellStep(40, 40, 0, 1);
            }
        };
    }

    private void steps() {
        says("At most 8 steps can be told: step k is a wish for part k, with a least length, 0 to 9999.");
        edges.due(told(6), x -> x.tellStep(5, 5, 0, 0), 6);
        edges.due(told(7), x -> x.tellStep(5, 5, 0, 0), 7);
        edges.refused(told(8), x -> x.tellStep(5, 5, 0, 0), Edges.STATE);
        edges.range(Edges.CALM, 0, 9999, (x, length) -> x.tellStep(9, 9, 0, length) * 0 + x.step(1, 3), n -> n);
        for (int steps = 1; steps <= 3; steps++) {
            int last = steps - 1;
            Edges.Setup three = Edges.all(told(steps), Edges.all(x -> x.cut(0, 50), x -> x.cut(1, 50)));
            edges.due(three, x -> x.part(last, 8), 1);
            if (steps < 3) {
                edges.due(three, x -> x.part(last + 1, 8), 0);
            }
        }
    }

    private void right() {
        says("The bar is right if it has as many parts as there are steps (at least one), and each part fits its "
                + "step's wish and is at least as long.");
        for (int steps = 0; steps <= 3; steps++) {
            edges.due(told(steps), x -> x.value(10), steps == 1 ? 1 : 0);
            edges.due(Edges.all(told(steps), x -> x.cut(0, 50)), x -> x.value(10), steps == 2 ? 1 : 0);
        }
        edges.due(Edges.all(told(7), inSections(8)), x -> x.value(10), 0);
        edges.due(Edges.all(told(8), inSections(8)), x -> x.value(10), 1);
        edges.due(Edges.all(told(8), inSections(7)), x -> x.value(10), 0);
        int[][] due = {{249, 1}, {250, 1}, {251, 0}};
        for (int[] d : due) {
            Edges.Setup least = x -> x.tellStep(40, 40, 0, d[0]);
            edges.due(least, x -> x.value(10), d[1]);
            edges.due(least, x -> x.part(0, 8), d[1]);
            Edges.Setup second = Edges.all(Edges.all(told(1), Edges.taken(40, 40, 1600 * 251)), least);
            edges.due(Edges.all(second, x -> x.cut(0, 1)), x -> x.value(10), d[1]);
        }
        edges.due(Edges.all(told(1), x -> x.blow(0, 0, 1)), x -> x.value(10), 0);
        edges.due(Edges.all(Edges.all(told(2), x -> x.cut(0, 9)), x -> x.blow(0, 1, 1)), x -> x.value(10), 0);
        edges.due(Edges.all(Edges.all(told(2), x -> x.cut(0, 9)), x -> x.blow(1, 1, 1)), x -> x.value(10), 0);
    }

    private static Edges.Setup inSections(int parts) {
        return x -> {
            for (int part = 0; part < parts - 1; part++) {
                x.cut(part, 5);
            }
        };
    }

    private static Edges.Setup paused(int times) {
        return x -> {
            for (int time = 0; time < times; time++) {
                x.pause(1);
            }
        };
    }

    private static int undone(BarForger x, int times) {
        for (int time = 0; time < times; time++) {
            x.undo();
        }
        return x.value(1);
    }

    private void savedStates() {
        says("at most 4 states are saved, and the oldest is dropped first.");
        for (int times = 0; times <= 6; times++) {
            int saved = Math.min(times, 4);
            int warmth = 1250 - 20 * (times - saved);
            edges.due(paused(times), x -> undone(x, saved), warmth);
            edges.refused(Edges.all(paused(times), x -> undone(x, saved)), BarForger::undo, Edges.STATE);
            int left = saved - 1;
            if (saved > 0) {
                edges.due(paused(times), BarForger::undo, left);
            }
        }
    }

    private void savedUnchanged() {
        says("saves the state from before the call, even if the call changes nothing");
        edges.undoable(Edges.CALM, x -> x.setScale(13));
        edges.undoable(Edges.NEW, BarForger::clearSteps);
        edges.undoable(Edges.NEW, x -> x.forge(0, 40, 40, 0));
        edges.undoable(Edges.NEW, BarForger::carryOut);
        edges.undoable(Edges.NEW, x -> x.take(40, 40, 400000));
        edges.undoable(x -> Edges.write(x, "u0;"), BarForger::carryOut);
        Edges.Setup coldest = Edges.all(x -> x.pause(60), x -> x.pause(60));
        edges.due(coldest, x -> x.value(1), 20);
        edges.undoable(coldest, x -> x.pause(1));
    }

    private void savedAllButText() {
        says("The saved state contains everything except the text.");
        edges.due(Edges.NEW, x -> x.pause(1) * x.append('h') * 0 + x.undo() + x.clearText(), 1);
        edges.due(x -> x.append('h'), x -> x.pause(1) * x.clearText() * 0 + x.undo() + x.clearText(), 0);
        edges.due(Edges.NEW, x -> x.setScale(50) * 0 + x.undo() + x.value(2), 10);
        edges.due(Edges.NEW, x -> x.tellStep(5, 5, 0, 0) + x.undo() + x.value(9), 0);
        Edges.Setup retold = Edges.all(x -> x.tellStep(11, 12, 1, 13),
                BarForger::clearSteps, x -> x.tellStep(5, 6, 7, 8),
                BarForger::undo, BarForger::undo);
        int[] told = {11, 12, 1, 13};
        edges.range(retold, 0, 3, (x, what) -> x.step(0, what), what -> told[what]);
        edges.due(Edges.CALM, x -> x.clearSteps() * 0 + x.undo() * 0 + x.value(9), 1);
        edges.due(Edges.NEW, x -> x.take(5, 5, 25) * 0 + x.undo() + x.value(5), 400000);
        edges.due(Edges.CALM, x -> {
            x.take(5, 5, 25);
            x.undo();
            return x.kept();
        }, 35844.0 / 48000.0);
    }

    private void exceptions() {
        says("A call that throws an exception changes nothing. If several exceptions apply, the one that is listed "
                + "first is thrown.");
        Edges.Setup cold = Edges.all(Edges.BUSY, x -> x.pause(60));
        edges.refused(cold, x -> x.blow(3, 3, 0), Edges.INDEX);
        edges.refused(cold, x -> x.blow(2, 3, 1), Edges.ARGUMENT);
        edges.refused(cold, x -> x.blow(2, 2, 61), Edges.ARGUMENT);
        edges.refused(cold, x -> x.blow(2, 2, 60), Edges.STATE);
        edges.refused(cold, x -> x.cut(3, 0), Edges.INDEX);
        edges.refused(cold, x -> x.weld(2), Edges.INDEX);
        edges.refused(cold, x -> x.weld(1), Edges.STATE);
        edges.refused(cold, x -> x.forge(3, 4, 101, 10), Edges.INDEX);
        edges.refused(cold, x -> x.forge(2, 100, 5, 10), Edges.ARGUMENT);
        edges.refused(cold, x -> x.forge(2, 100, 5, 9), Edges.STATE);
    }
}
