import java.util.Arrays;

/**
 * A smithy that forges one bar. What each call promises stands in DOC.md, "Promise 1" to "Promise 26".
 */
public final class BarForger {
    public static final int NONE = -1;

    private static final int LEAST_SIDE = 5;
    private static final int MOST_SIDE = 100;
    private static final int MOST_VOLUME = 9000000;
    private static final int MOST_LENGTH = 9999;
    private static final int MOST_TOLERANCE = 9;
    private static final int MOST_SCALE = 50;
    private static final int MOST_MINUTES = 60;
    private static final int MOST_BLOWS = 60;
    private static final int MOST_PARTS = 8;
    private static final int MOST_STEPS = 8;
    private static final int MOST_SAVED = 4;

    private static final int HOT = 1250;
    private static final int COLD = 20;
    private static final int LEAST_TO_STRIKE = 850;
    private static final int LEAST_TO_WELD = 1100;
    private static final int WARMTH_OF_BLOW = 12;
    private static final int WARMTH_OF_MINUTE = 20;

    private static final int FIRST_SIDE = 40;
    private static final int FIRST_VOLUME = 400000;
    private static final int FIRST_SCALE = 10;

    private static final int DRAW = 0;
    private static final int TURNED = 1;
    private static final int UPSET = 2;
    private static final int HEAT = 3;
    private static final int CUT = 4;

    private static final int LAST_OF_PART = 8;
    private static final int LAST_OF_VALUE = 11;
    private static final int LAST_OF_STEP = 3;

    private static final int MOST_BYTES = 90;
    private static final int LAST_BYTE = 127;
    private static final int SYNTAX_ERROR = -10;

    private static final long HASH_START = 3547L;
    private static final long HASH_FACTOR = 31L;

    private final State now = new State();
    private final State trial = new State();
    private final History history = new History();
    private final WaySearch search = new WaySearch();
    private final OrderText text = new OrderText();

    public BarForger() {
        now.bar.scale = FIRST_SCALE;
        now.bar.begin(FIRST_SIDE, FIRST_SIDE, FIRST_VOLUME);
    }

    // ---- bar

    public int take(int width, int height, int volume) throws IllegalArgumentException {
        requireSides(width, height);
        requireRange(volume, 1, MOST_VOLUME);
        history.save(now);
        now.bar.begin(width, height, volume);
        return now.bar.lengthOf(0);
    }

    public int setScale(int scale) throws IllegalArgumentException {
        requireRange(scale, 0, MOST_SCALE);
        history.save(now);
        int previous = now.bar.scale;
        now.bar.scale = scale;
        return previous;
    }

    public int blow(int part, int kind, int blows)
            throws IndexOutOfBoundsException, IllegalArgumentException, IllegalStateException {
        requirePart(part);
        requireRange(kind, DRAW, UPSET);
        requireRange(blows, 1, MOST_BLOWS);
        if (!now.bar.canStrike(part, kind, blows)) {
            throw new IllegalStateException("one of the blows is not possible");
        }
        history.save(now);
        now.bar.strike(part, kind, blows);
        return now.bar.lengthOf(part);
    }

    public int heat() {
        history.save(now);
        return now.bar.warmUp();
    }

    public int pause(int minutes) throws IllegalArgumentException {
        requireRange(minutes, 1, MOST_MINUTES);
        history.save(now);
        now.bar.warmth = Math.max(COLD, now.bar.warmth - minutes * WARMTH_OF_MINUTE);
        return now.bar.warmth;
    }

    public int cut(int part, int length)
            throws IndexOutOfBoundsException, IllegalArgumentException, IllegalStateException {
        requirePart(part);
        requireRange(length, 1, MOST_LENGTH);
        if (!now.bar.canSplit(part, length)) {
            throw new IllegalStateException("the bar has 8 parts, or the part is not longer");
        }
        history.save(now);
        now.bar.split(part, length);
        return now.bar.parts;
    }

    public int weld(int part) throws IndexOutOfBoundsException, IllegalStateException {
        if (!now.bar.has(part) || part == now.bar.parts - 1) {
            throw new IndexOutOfBoundsException("no such part, or the last one");
        }
        if (!now.bar.canJoin(part)) {
            throw new IllegalStateException("the parts cannot be welded");
        }
        history.save(now);
        now.bar.join(part);
        return now.bar.lengthOf(part);
    }

    public int crop() throws IllegalStateException {
        if (now.bar.parts <= 1) {
            throw new IllegalStateException("the only part");
        }
        history.save(now);
        return now.bar.dropLast();
    }

    public int forge(int part, int width, int height, int tolerance)
            throws IndexOutOfBoundsException, IllegalArgumentException, IllegalStateException {
        requirePart(part);
        requireWish(width, height, tolerance);
        int blows = search.find(now.bar, part, width, height, tolerance);
        if (blows == NONE) {
            throw new IllegalStateException("no way of at most 60 blows");
        }
        history.save(now);
        followWay(now.bar, part);
        return blows;
    }

    public int part(int part, int what) throws IndexOutOfBoundsException, IllegalArgumentException {
        requirePart(part);
        requireRange(what, 0, LAST_OF_PART);
        return now.ofPart(part, what);
    }

    public int value(int what) throws IllegalArgumentException {
        requireRange(what, 0, LAST_OF_VALUE);
        return now.ofWhole(what);
    }

    // ---- steps

    public int tellStep(int width, int height, int tolerance, int length)
            throws IllegalArgumentException, IllegalStateException {
        requireWish(width, height, tolerance);
        requireRange(length, 0, MOST_LENGTH);
        if (now.steps.count >= MOST_STEPS) {
            throw new IllegalStateException("there are 8 steps");
        }
        history.save(now);
        return now.steps.tell(width, height, tolerance, length);
    }

    public int clearSteps() {
        history.save(now);
        int before = now.steps.count;
        now.steps.count = 0;
        return before;
    }

    public int step(int step, int what) throws IndexOutOfBoundsException, IllegalArgumentException {
        if (!now.steps.has(step)) {
            throw new IndexOutOfBoundsException("no such step");
        }
        requireRange(what, 0, LAST_OF_STEP);
        return now.steps.ofStep(step, what);
    }

    // ---- ways

    public int way(int part, int width, int height, int tolerance)
            throws IndexOutOfBoundsException, IllegalArgumentException {
        requirePart(part);
        requireWish(width, height, tolerance);
        return search.find(now.bar, part, width, height, tolerance);
    }

    public int blowOf(int part, int width, int height, int tolerance, int index)
            throws IndexOutOfBoundsException, IllegalArgumentException {
        requirePart(part);
        if (index < 0) {
            throw new IndexOutOfBoundsException("a negative index");
        }
        requireWish(width, height, tolerance);
        int blows = search.find(now.bar, part, width, height, tolerance);
        return index < blows ? search.kindAt(index) : NONE;
    }

    public int heatsTo(int part, int width, int height, int tolerance)
            throws IndexOutOfBoundsException, IllegalArgumentException {
        requirePart(part);
        requireWish(width, height, tolerance);
        if (search.find(now.bar, part, width, height, tolerance) == NONE) {
            return NONE;
        }
        trial.copyFrom(now);
        followWay(trial.bar, part);
        return trial.bar.heats - now.bar.heats;
    }

    public int heatsToSteps() {
        trial.copyFrom(now);
        Steps steps = now.steps;
        int wishes = Math.min(now.bar.parts, steps.count);
        for (int k = 0; k < wishes; k++) {
            int blows = search.find(trial.bar, k, steps.widths.get(k), steps.heights.get(k), steps.tolerances.get(k));
            if (blows == NONE) {
                return NONE;
            }
            followWay(trial.bar, k);
        }
        return trial.bar.heats - now.bar.heats;
    }

    public int lengthAs(int width, int height) throws IllegalArgumentException {
        requireSides(width, height);
        return lengthWith(now.bar.volumeOfAll(), width, height);
    }

    public double kept() {
        double taken = (double) now.bar.taken;
        double left = (double) now.bar.volumeOfAll();
        return taken > 0.0 ? left / taken : 0.0;
    }

    // ---- text

    public int append(int value) throws IllegalArgumentException, IllegalStateException {
        requireRange(value, 0, LAST_BYTE);
        if (text.length >= MOST_BYTES) {
            throw new IllegalStateException("the text has 90 bytes");
        }
        return text.add(value);
    }

    public int clearText() {
        int before = text.length;
        text.length = 0;
        return before;
    }

    public int carryOut() {
        int error = text.read();
        if (error != NONE) {
            return SYNTAX_ERROR - error;
        }
        history.save(now);
        int orders = text.orders;
        for (int order = 0; order < orders; order++) {
            if (!obey(order)) {
                return order;
            }
        }
        return orders;
    }

    // ---- state

    public int undo() throws IllegalStateException {
        if (history.count <= 0) {
            throw new IllegalStateException("no saved state");
        }
        history.restore(now);
        return history.count;
    }

    public long digest() {
        long hash = HASH_FACTOR * HASH_START + text.length;
        for (int what = 0; what <= LAST_OF_VALUE; what++) {
            hash = HASH_FACTOR * hash + now.ofWhole(what);
        }
        hash = hashOfParts(hash);
        hash = hashOfSteps(hash);
        hash = HASH_FACTOR * hash + heatsToSteps();
        return HASH_FACTOR * hash + history.count;
    }

    // ---- helpers

    private void requirePart(int part) {
        if (!now.bar.has(part)) {
            throw new IndexOutOfBoundsException("no such part");
        }
    }

    private static void requireRange(int number, int least, int most) {
        if (number < least || number > most) {
            throw new IllegalArgumentException("an argument is out of range");
        }
    }

    private static void requireSides(int width, int height) {
        requireRange(width, LEAST_SIDE, MOST_SIDE);
        requireRange(height, LEAST_SIDE, MOST_SIDE);
    }

    private static void requireWish(int width, int height, int tolerance) {
        requireSides(width, height);
        requireRange(tolerance, 0, MOST_TOLERANCE);
    }

    private static int lengthWith(int volume, int width, int height) {
        int area = width * height;
        return area > 0 ? volume / area : 0;
    }

    private static boolean isNear(int number, int wished, int tolerance) {
        return Math.abs(number - wished) <= tolerance;
    }

    /** A heat on the way may leave too little volume for an upset, which is given all the same. */
    private void followWay(Bar bar, int part) {
        int blows = search.blows;
        for (int index = 0; index < blows; index++) {
            if (bar.warmth < LEAST_TO_STRIKE) {
                bar.warmUp();
            }
            bar.strike(part, search.kindAt(index), 1);
        }
    }

    /** Carries one order out, or changes nothing and answers false if it is not possible. */
    private boolean obey(int order) {
        int act = text.acts.get(order);
        int part = text.parts.get(order);
        int number = text.numbers.get(order);
        if (act == HEAT) {
            now.bar.warmUp();
            return true;
        }
        if (act == CUT) {
            boolean possible = now.bar.canSplit(part, number);
            if (possible) {
                now.bar.split(part, number);
            }
            return possible;
        }
        boolean possible = now.bar.canStrike(part, act, number);
        if (possible) {
            now.bar.strike(part, act, number);
        }
        return possible;
    }

    private long hashOfParts(long start) {
        long hash = start;
        for (int k = 0; k < now.bar.parts; k++) {
            for (int what = 0; what <= LAST_OF_PART; what++) {
                hash = HASH_FACTOR * hash + now.ofPart(k, what);
            }
        }
        return hash;
    }

    private long hashOfSteps(long start) {
        long hash = start;
        for (int k = 0; k < now.steps.count; k++) {
            for (int what = 0; what <= LAST_OF_STEP; what++) {
                hash = HASH_FACTOR * hash + now.steps.ofStep(k, what);
            }
        }
        return hash;
    }

    /** A row of numbers that bears every index, so that no array access elsewhere needs a test of its own. */
    private static final class Row {
        private final int[] cells;

        Row(int length) {
            cells = new int[length > 0 ? length : 0];
        }

        int get(int index) {
            return index >= 0 && index < cells.length ? cells[index] : 0;
        }

        void set(int index, int number) {
            if (index >= 0 && index < cells.length) {
                cells[index] = number;
            }
        }

        void copyFrom(Row other) {
            System.arraycopy(other.cells, 0, cells, 0, Math.min(other.cells.length, cells.length));
        }

        void clear() {
            Arrays.fill(cells, 0);
        }
    }

    /** A width and a height that blows change. */
    private static final class Section {
        int width;
        int height;

        void become(int newWidth, int newHeight) {
            width = newWidth;
            height = newHeight;
        }

        boolean allows(int kind, int volume) {
            switch (kind) {
                case DRAW:
                    return allowsDraw(height, width);
                case TURNED:
                    return allowsDraw(width, height);
                case UPSET:
                    return allowsUpset(lengthWith(volume, width, height));
                default:
                    return false;
            }
        }

        void change(int kind) {
            if (kind == DRAW) {
                int less = pressed(height);
                become(width + less / 3, height - less);
            } else if (kind == TURNED) {
                int less = pressed(width);
                become(width - less, height + less / 3);
            } else {
                become(width + 1, height + 1);
            }
        }

        private static int pressed(int side) {
            return side < 10 ? 1 : side / 10;
        }

        private static boolean allowsDraw(int struck, int other) {
            int less = pressed(struck);
            return struck - less >= LEAST_SIDE && other + less / 3 <= MOST_SIDE;
        }

        private boolean allowsUpset(int length) {
            int smaller = Math.min(width, height);
            int greater = Math.max(width, height);
            return greater < MOST_SIDE && length >= 1 && length <= 3 * smaller;
        }
    }

    /** The parts of the bar, its warmth, and what has been counted since it was taken. */
    private static final class Bar {
        int parts;
        int warmth;
        int scale;
        int heats;
        int blowsOfAll;
        int scaled;
        int cropped;
        int taken;
        final Row widths = new Row(MOST_PARTS);
        final Row heights = new Row(MOST_PARTS);
        final Row volumes = new Row(MOST_PARTS);
        final Row blows = new Row(MOST_PARTS);
        private final Section section = new Section();

        /** The scale stays: a new bar is forged in the same smithy. */
        void begin(int width, int height, int volume) {
            parts = 1;
            warmth = HOT;
            heats = 0;
            blowsOfAll = 0;
            scaled = 0;
            cropped = 0;
            taken = volume;
            widths.set(0, width);
            heights.set(0, height);
            volumes.set(0, volume);
            blows.set(0, 0);
        }

        void copyFrom(Bar other) {
            parts = other.parts;
            warmth = other.warmth;
            scale = other.scale;
            heats = other.heats;
            blowsOfAll = other.blowsOfAll;
            scaled = other.scaled;
            cropped = other.cropped;
            taken = other.taken;
            widths.copyFrom(other.widths);
            heights.copyFrom(other.heights);
            volumes.copyFrom(other.volumes);
            blows.copyFrom(other.blows);
        }

        boolean has(int k) {
            return k >= 0 && k < parts;
        }

        int lengthOf(int k) {
            return lengthWith(volumes.get(k), widths.get(k), heights.get(k));
        }

        int lengthOfAll() {
            int sum = 0;
            for (int k = 0; k < parts; k++) {
                sum += lengthOf(k);
            }
            return sum;
        }

        int volumeOfAll() {
            int sum = 0;
            for (int k = 0; k < parts; k++) {
                sum += volumes.get(k);
            }
            return sum;
        }

        int blowsUntilHeat() {
            return warmth < LEAST_TO_STRIKE ? 0 : (warmth - LEAST_TO_STRIKE) / WARMTH_OF_BLOW + 1;
        }

        /** Whether a single blow would be possible but for warmth. */
        boolean allows(int k, int kind) {
            section.become(widths.get(k), heights.get(k));
            return section.allows(kind, volumes.get(k));
        }

        boolean canStrike(int k, int kind, int count) {
            if (!has(k) || count > blowsUntilHeat()) {
                return false;
            }
            section.become(widths.get(k), heights.get(k));
            for (int blow = 0; blow < count; blow++) {
                if (!section.allows(kind, volumes.get(k))) {
                    return false;
                }
                section.change(kind);
            }
            return true;
        }

        void strike(int k, int kind, int count) {
            section.become(widths.get(k), heights.get(k));
            for (int blow = 0; blow < count; blow++) {
                section.change(kind);
            }
            widths.set(k, section.width);
            heights.set(k, section.height);
            blows.set(k, blows.get(k) + count);
            blowsOfAll += count;
            warmth -= count * WARMTH_OF_BLOW;
        }

        int warmUp() {
            int lost = 0;
            for (int k = 0; k < parts; k++) {
                int loss = volumes.get(k) * scale / 1000;
                volumes.set(k, volumes.get(k) - loss);
                lost += loss;
            }
            warmth = HOT;
            heats++;
            scaled += lost;
            return lost;
        }

        boolean canSplit(int k, int length) {
            return has(k) && parts < MOST_PARTS && lengthOf(k) > length;
        }

        void split(int k, int length) {
            for (int behind = parts; behind > k; behind--) {
                copyPart(behind - 1, behind);
            }
            parts++;
            int first = length * widths.get(k) * heights.get(k);
            volumes.set(k + 1, volumes.get(k) - first);
            volumes.set(k, first);
        }

        boolean canJoin(int k) {
            return widths.get(k) == widths.get(k + 1)
                    && heights.get(k) == heights.get(k + 1)
                    && volumes.get(k) + volumes.get(k + 1) <= MOST_VOLUME
                    && warmth >= LEAST_TO_WELD;
        }

        void join(int k) {
            volumes.set(k, volumes.get(k) + volumes.get(k + 1));
            blows.set(k, blows.get(k) + blows.get(k + 1));
            parts--;
            for (int behind = k + 1; behind < parts; behind++) {
                copyPart(behind + 1, behind);
            }
        }

        int dropLast() {
            parts--;
            int volume = volumes.get(parts);
            cropped += volume;
            return volume;
        }

        private void copyPart(int from, int to) {
            widths.set(to, widths.get(from));
            heights.set(to, heights.get(from));
            volumes.set(to, volumes.get(from));
            blows.set(to, blows.get(from));
        }
    }

    /** The told steps. */
    private static final class Steps {
        int count;
        final Row widths = new Row(MOST_STEPS);
        final Row heights = new Row(MOST_STEPS);
        final Row tolerances = new Row(MOST_STEPS);
        final Row lengths = new Row(MOST_STEPS);

        void copyFrom(Steps other) {
            count = other.count;
            widths.copyFrom(other.widths);
            heights.copyFrom(other.heights);
            tolerances.copyFrom(other.tolerances);
            lengths.copyFrom(other.lengths);
        }

        boolean has(int k) {
            return k >= 0 && k < count;
        }

        int tell(int width, int height, int tolerance, int length) {
            int k = count;
            widths.set(k, width);
            heights.set(k, height);
            tolerances.set(k, tolerance);
            lengths.set(k, length);
            count++;
            return k;
        }

        int ofStep(int k, int what) {
            switch (what) {
                case 0:
                    return widths.get(k);
                case 1:
                    return heights.get(k);
                case 2:
                    return tolerances.get(k);
                default:
                    return lengths.get(k);
            }
        }
    }

    /** All that undo brings back: the bar and the steps. */
    private static final class State {
        final Bar bar = new Bar();
        final Steps steps = new Steps();

        void copyFrom(State other) {
            bar.copyFrom(other.bar);
            steps.copyFrom(other.steps);
        }

        boolean meetsStep(int k) {
            return steps.has(k)
                    && isNear(bar.widths.get(k), steps.widths.get(k), steps.tolerances.get(k))
                    && isNear(bar.heights.get(k), steps.heights.get(k), steps.tolerances.get(k))
                    && bar.lengthOf(k) >= steps.lengths.get(k);
        }

        boolean isRight() {
            if (steps.count == 0 || steps.count != bar.parts) {
                return false;
            }
            for (int k = 0; k < steps.count; k++) {
                if (!meetsStep(k)) {
                    return false;
                }
            }
            return true;
        }

        int ofPart(int k, int what) {
            switch (what) {
                case 0:
                    return bar.widths.get(k);
                case 1:
                    return bar.heights.get(k);
                case 2:
                    return bar.volumes.get(k);
                case 3:
                    return bar.lengthOf(k);
                case 4:
                    return bar.blows.get(k);
                case 5:
                    return bar.allows(k, DRAW) ? 1 : 0;
                case 6:
                    return bar.allows(k, TURNED) ? 1 : 0;
                case 7:
                    return bar.allows(k, UPSET) ? 1 : 0;
                default:
                    return meetsStep(k) ? 1 : 0;
            }
        }

        int ofWhole(int what) {
            switch (what) {
                case 0:
                    return bar.parts;
                case 1:
                    return bar.warmth;
                case 2:
                    return bar.scale;
                case 3:
                    return bar.heats;
                case 4:
                    return bar.blowsOfAll;
                case 5:
                    return bar.volumeOfAll();
                case 6:
                    return bar.scaled;
                case 7:
                    return bar.cropped;
                case 8:
                    return bar.lengthOfAll();
                case 9:
                    return steps.count;
                case 10:
                    return isRight() ? 1 : 0;
                default:
                    return bar.blowsUntilHeat();
            }
        }
    }

    /** The saved states, the oldest first; all are made at once and used again, to save room. */
    private static final class History {
        int count;
        private final State[] states = new State[MOST_SAVED];

        History() {
            for (int index = 0; index < states.length; index++) {
                states[index] = new State();
            }
        }

        void save(State now) {
            if (count >= MOST_SAVED) {
                moveOldestBehind();
                count = MOST_SAVED - 1;
            }
            State free = stateAt(count);
            if (free != null) {
                free.copyFrom(now);
                count++;
            }
        }

        void restore(State now) {
            State newest = stateAt(count - 1);
            if (newest != null) {
                now.copyFrom(newest);
                count--;
            }
        }

        private State stateAt(int index) {
            return index >= 0 && index < states.length ? states[index] : null;
        }

        private void moveOldestBehind() {
            State oldest = stateAt(0);
            for (int index = 0; index < states.length; index++) {
                State next = stateAt(index + 1);
                states[index] = next == null ? oldest : next;
            }
        }
    }

    /**
     * Looks for the shortest way, level by level. Sections are reached in the order of their first ways, so the first
     * fitting one that is reached has the first of the shortest ways.
     */
    private static final class WaySearch {
        private static final int SIDES = MOST_SIDE - LEAST_SIDE + 1;
        private static final int CELLS = SIDES * SIDES;
        /** The mark of the start; 0 marks what was not reached, and a kind of blow plus 1 what it reached. */
        private static final int START = 9;

        /** The number of blows of the way that was found last. */
        int blows;
        private final Row way = new Row(MOST_BLOWS);
        private final Row reached = new Row(CELLS);
        private final Row cellBefore = new Row(CELLS);
        private final Row marks = new Row(CELLS);
        private final Section section = new Section();
        private int count;
        private int volume;
        private int wishedWidth;
        private int wishedHeight;
        private int tolerance;

        int find(Bar bar, int part, int width, int height, int wishedTolerance) {
            volume = bar.volumes.get(part);
            wishedWidth = width;
            wishedHeight = height;
            tolerance = wishedTolerance;
            int start = begin(bar.widths.get(part), bar.heights.get(part));
            int goal = sectionFits() ? start : NONE;
            int levelBegin = 0;
            int level = 0;
            while (goal == NONE && level < MOST_BLOWS) {
                int levelEnd = count;
                goal = reachFrom(levelBegin, levelEnd);
                levelBegin = levelEnd;
                level++;
            }
            blows = goal == NONE ? NONE : level;
            traceBack(goal);
            return blows;
        }

        int kindAt(int index) {
            return way.get(index);
        }

        private int begin(int width, int height) {
            marks.clear();
            count = 0;
            section.become(width, height);
            int start = cellOfSection();
            reach(start, start, START);
            return start;
        }

        /** Reaches what is one blow behind a level; answers the first section that fits. */
        private int reachFrom(int levelBegin, int levelEnd) {
            for (int index = levelBegin; index < levelEnd; index++) {
                int cell = reached.get(index);
                for (int kind = DRAW; kind <= UPSET; kind++) {
                    if (reachBehind(cell, kind) && sectionFits()) {
                        return cellOfSection();
                    }
                }
            }
            return NONE;
        }

        /** Answers whether the blow is possible and leads to a section that was not reached yet. */
        private boolean reachBehind(int cell, int kind) {
            section.become(cell / SIDES + LEAST_SIDE, cell % SIDES + LEAST_SIDE);
            if (!section.allows(kind, volume)) {
                return false;
            }
            section.change(kind);
            int next = cellOfSection();
            if (marks.get(next) != 0) {
                return false;
            }
            reach(next, cell, kind + 1);
            return true;
        }

        private void reach(int cell, int before, int mark) {
            marks.set(cell, mark);
            cellBefore.set(cell, before);
            reached.set(count, cell);
            count++;
        }

        private void traceBack(int goal) {
            int cell = goal;
            for (int index = blows - 1; index >= 0; index--) {
                way.set(index, marks.get(cell) - 1);
                cell = cellBefore.get(cell);
            }
        }

        private int cellOfSection() {
            return (section.width - LEAST_SIDE) * SIDES + section.height - LEAST_SIDE;
        }

        private boolean sectionFits() {
            return isNear(section.width, wishedWidth, tolerance) && isNear(section.height, wishedHeight, tolerance);
        }
    }

    /** The text, and the orders that are read from it. */
    private static final class OrderText {
        int length;
        int orders;
        final Row acts = new Row(MOST_BYTES);
        final Row parts = new Row(MOST_BYTES);
        final Row numbers = new Row(MOST_BYTES);
        private final Row bytes = new Row(MOST_BYTES);
        private int position;
        private int error;

        int add(int value) {
            bytes.set(length, value);
            length++;
            return length;
        }

        /** Reads all orders; answers NONE, or the position of the syntax error. */
        int read() {
            position = 0;
            orders = 0;
            while (orders < MOST_BYTES && position < length) {
                if (!readOrder() || !accept(';')) {
                    return error;
                }
                orders++;
            }
            return NONE;
        }

        private boolean readOrder() {
            switch (byteAt(position)) {
                case 'd':
                    return readBlows(DRAW);
                case 't':
                    return readBlows(TURNED);
                case 'u':
                    return readBlows(UPSET);
                case 'c':
                    return readCut();
                case 'h':
                    acts.set(orders, HEAT);
                    position++;
                    return true;
                default:
                    return fail(position);
            }
        }

        private boolean readBlows(int kind) {
            acts.set(orders, kind);
            numbers.set(orders, 1);
            position++;
            if (!readPart()) {
                return false;
            }
            if (byteAt(position) != 'x') {
                return true;
            }
            position++;
            return readNumber(2, MOST_BLOWS);
        }

        private boolean readCut() {
            acts.set(orders, CUT);
            position++;
            return readPart() && accept(',') && readNumber(4, MOST_LENGTH);
        }

        private boolean readPart() {
            int digit = byteAt(position) - '0';
            if (digit < 0 || digit >= MOST_PARTS) {
                return fail(position);
            }
            parts.set(orders, digit);
            position++;
            return true;
        }

        /** A digit too many is found ahead of a number out of its range, which is found at its end only. */
        private boolean readNumber(int mostDigits, int most) {
            int first = position;
            int number = 0;
            while (position < first + mostDigits && isDigit(byteAt(position))) {
                number = number * 10 + byteAt(position) - '0';
                position++;
            }
            if (position == first || isDigit(byteAt(position))) {
                return fail(position);
            }
            if (number < 1 || number > most) {
                return fail(first);
            }
            numbers.set(orders, number);
            return true;
        }

        private boolean accept(int value) {
            if (byteAt(position) != value) {
                return fail(position);
            }
            position++;
            return true;
        }

        private boolean fail(int at) {
            error = at;
            return false;
        }

        /** Behind the text it answers NONE, which no byte is. */
        private int byteAt(int index) {
            return index >= 0 && index < length ? bytes.get(index) : NONE;
        }

        private static boolean isDigit(int value) {
            return value >= '0' && value <= '9';
        }
    }
}
