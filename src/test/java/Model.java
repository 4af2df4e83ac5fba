import java.util.ArrayDeque;
import java.util.ArrayList;
import java.util.List;
import java.util.regex.Matcher;
import java.util.regex.Pattern;

/**
 * The document once more, written in another way than BarForger: plain copies for undo, ways from the distances to the
 * wish, syntax errors from patterns. A call that is due to throw answers the exception's class.
 */
final class Model {
    private static final Class<?> INDEX = IndexOutOfBoundsException.class;
    private static final Class<?> ARGUMENT = IllegalArgumentException.class;
    private static final Class<?> STATE = IllegalStateException.class;
    private static final Pattern ORDERS =
            Pattern.compile("([dtu][0-7](x[0-9]{1,2})?;|h;|c[0-7],[0-9]{1,4};)*");
    private static final Pattern NUMBER = Pattern.compile("([x,])([0-9]+)");

    /** A part's width, height, volume and blows. */
    private record Part(int w, int h, int v, int blows) {
        int length() {
            return v / (w * h);
        }
    }

    private record Step(int w, int h, int tolerance, int length) {
    }

    /** All that is saved; the lists in it are never changed. */
    private record World(List<Part> parts, List<Step> steps, int warmth, int scale, int heats, int blows, int scaled,
            int cropped, int taken) {
    }

    private final List<World> saved = new ArrayList<>();
    private final StringBuilder text = new StringBuilder();
    private World world = new World(List.of(new Part(40, 40, 400000, 0)), List.of(), 1250, 10, 0, 0, 0, 0, 400000);

    private static boolean within(int number, int least, int most) {
        return number >= least && number <= most;
    }

    private static boolean isWish(int w, int h, int tolerance) {
        return within(w, 5, 100) && within(h, 5, 100) && within(tolerance, 0, 9);
    }

    private boolean noPart(int part) {
        return part < 0 || part >= world.parts.size();
    }

    private void save() {
        saved.add(world);
        if (saved.size() > 4) {
            saved.remove(0);
        }
    }

    private static World withParts(World a, List<Part> parts) {
        return new World(List.copyOf(parts), a.steps, a.warmth, a.scale, a.heats, a.blows, a.scaled, a.cropped,
                a.taken);
    }

    private static World withWarmth(World a, int warmth) {
        return new World(a.parts, a.steps, warmth, a.scale, a.heats, a.blows, a.scaled, a.cropped, a.taken);
    }

    private static World withSteps(World a, List<Step> steps) {
        return new World(a.parts, List.copyOf(steps), a.warmth, a.scale, a.heats, a.blows, a.scaled, a.cropped,
                a.taken);
    }

    private static World hot(World a) {
        List<Part> parts = new ArrayList<>();
        int lost = 0;
        for (Part p : a.parts) {
            int loss = (int) ((long) p.v * a.scale / 1000);
            lost += loss;
            parts.add(new Part(p.w, p.h, p.v - loss, p.blows));
        }
        return new World(List.copyOf(parts), a.steps, 1250, a.scale, a.heats + 1, a.blows, a.scaled + lost, a.cropped,
                a.taken);
    }

    private static int[] sides(int w, int h, int kind) {
        if (kind == 2) {
            return new int[] {w + 1, h + 1};
        }
        int d = Math.max(1, (kind == 0 ? h : w) / 10);
        return kind == 0 ? new int[] {w + d / 3, h - d} : new int[] {w - d, h + d / 3};
    }

    private static boolean possible(int w, int h, int v, int kind) {
        int[] then = sides(w, h, kind);
        if (kind == 2) {
            int length = v / (w * h);
            return then[0] <= 100 && then[1] <= 100 && length >= 1 && length <= 3 * w && length <= 3 * h;
        }
        return then[kind == 0 ? 1 : 0] >= 5 && then[kind] <= 100;
    }

    private static World struck(World a, int part, int kind) {
        Part p = a.parts.get(part);
        int[] then = sides(p.w, p.h, kind);
        List<Part> parts = new ArrayList<>(a.parts);
        parts.set(part, new Part(then[0], then[1], p.v, p.blows + 1));
        return new World(List.copyOf(parts), a.steps, a.warmth - 12, a.scale, a.heats, a.blows + 1, a.scaled,
                a.cropped, a.taken);
    }

    /** The world behind the blows, or null if one of them is not possible. */
    private static World struck(World a, int part, int kind, int blows) {
        World then = a;
        for (int i = 0; i < blows; i++) {
            Part p = then.parts.get(part);
            if (then.warmth < 850 || !possible(p.w, p.h, p.v, kind)) {
                return null;
            }
            then = struck(then, part, kind);
        }
        return then;
    }

    private static boolean fits(int w, int h, int ww, int wh, int tolerance) {
        return w >= ww - tolerance && w <= ww + tolerance && h >= wh - tolerance && h <= wh + tolerance;
    }

    /** For each section the fewest blows to the wish, found backwards; -1 where there is no way. */
    private static int[][] distances(int v, int ww, int wh, int tolerance) {
        List<List<int[]>> behind = new ArrayList<>();
        for (int i = 0; i < 101 * 101; i++) {
            behind.add(null);
        }
        int[][] distance = new int[101][101];
        ArrayDeque<int[]> queue = new ArrayDeque<>();
        for (int w = 5; w <= 100; w++) {
            for (int h = 5; h <= 100; h++) {
                distance[w][h] = -1;
                if (fits(w, h, ww, wh, tolerance)) {
                    distance[w][h] = 0;
                    queue.add(new int[] {w, h});
                }
                for (int kind = 0; kind <= 2; kind++) {
                    if (possible(w, h, v, kind)) {
                        int[] then = sides(w, h, kind);
                        int cell = then[0] * 101 + then[1];
                        if (behind.get(cell) == null) {
                            behind.set(cell, new ArrayList<>());
                        }
                        behind.get(cell).add(new int[] {w, h});
                    }
                }
            }
        }
        while (!queue.isEmpty()) {
            int[] at = queue.remove();
            List<int[]> before = behind.get(at[0] * 101 + at[1]);
            for (int[] b : before == null ? List.<int[]>of() : before) {
                if (distance[b[0]][b[1]] < 0) {
                    distance[b[0]][b[1]] = distance[at[0]][at[1]] + 1;
                    queue.add(b);
                }
            }
        }
        return distance;
    }

    /** The kinds of the shortest way, the first one of several; null without a way of at most 60. */
    static List<Integer> shortest(int width, int height, int v, int ww, int wh, int tolerance) {
        int[][] distance = distances(v, ww, wh, tolerance);
        int w = width;
        int h = height;
        if (distance[w][h] < 0 || distance[w][h] > 60) {
            return null;
        }
        List<Integer> way = new ArrayList<>();
        while (distance[w][h] > 0) {
            for (int kind = 0; kind <= 2; kind++) {
                int[] then = sides(w, h, kind);
                if (possible(w, h, v, kind) && distance[then[0]][then[1]] == distance[w][h] - 1) {
                    way.add(kind);
                    w = then[0];
                    h = then[1];
                    break;
                }
            }
        }
        return way;
    }

    private static List<Integer> shortest(World a, int part, int ww, int wh, int tolerance) {
        Part p = a.parts.get(part);
        return shortest(p.w, p.h, p.v, ww, wh, tolerance);
    }

    private static World forged(World a, int part, List<Integer> way) {
        World then = a;
        for (int kind : way) {
            if (then.warmth < 850) {
                then = hot(then);
            }
            then = struck(then, part, kind);
        }
        return then;
    }

    Object take(int w, int h, int v) {
        if (!within(w, 5, 100) || !within(h, 5, 100) || !within(v, 1, 9000000)) {
            return ARGUMENT;
        }
        save();
        world = new World(List.of(new Part(w, h, v, 0)), world.steps, 1250, world.scale, 0, 0, 0, 0, v);
        return v / (w * h);
    }

    Object setScale(int scale) {
        if (!within(scale, 0, 50)) {
            return ARGUMENT;
        }
        save();
        World a = world;
        world = new World(a.parts, a.steps, a.warmth, scale, a.heats, a.blows, a.scaled, a.cropped, a.taken);
        return a.scale;
    }

    Object blow(int part, int kind, int blows) {
        if (noPart(part)) {
            return INDEX;
        }
        if (!within(kind, 0, 2) || !within(blows, 1, 60)) {
            return ARGUMENT;
        }
        World then = struck(world, part, kind, blows);
        if (then == null) {
            return STATE;
        }
        save();
        world = then;
        return world.parts.get(part).length();
    }

    Object heat() {
        save();
        int before = world.scaled;
        world = hot(world);
        return world.scaled - before;
    }

    Object pause(int minutes) {
        if (!within(minutes, 1, 60)) {
            return ARGUMENT;
        }
        save();
        int warmth = world.warmth;
        for (int i = 0; i < minutes; i++) {
            warmth = Math.max(20, warmth - 20);
        }
        world = withWarmth(world, warmth);
        return warmth;
    }

    private World split(int part, int length) {
        if (noPart(part) || world.parts.size() == 8 || world.parts.get(part).length() <= length) {
            return null;
        }
        List<Part> parts = new ArrayList<>(world.parts);
        Part p = parts.remove(part);
        int first = length * p.w * p.h;
        parts.add(part, new Part(p.w, p.h, p.v - first, p.blows));
        parts.add(part, new Part(p.w, p.h, first, p.blows));
        return withParts(world, parts);
    }

    Object cut(int part, int length) {
        if (noPart(part)) {
            return INDEX;
        }
        if (!within(length, 1, 9999)) {
            return ARGUMENT;
        }
        World then = split(part, length);
        if (then == null) {
            return STATE;
        }
        save();
        world = then;
        return world.parts.size();
    }

    Object weld(int part) {
        if (noPart(part) || noPart(part + 1)) {
            return INDEX;
        }
        List<Part> parts = new ArrayList<>(world.parts);
        Part a = parts.get(part);
        Part b = parts.remove(part + 1);
        if (a.w != b.w || a.h != b.h || a.v + b.v > 9000000 || world.warmth < 1100) {
            return STATE;
        }
        save();
        parts.set(part, new Part(a.w, a.h, a.v + b.v, a.blows + b.blows));
        world = withParts(world, parts);
        return parts.get(part).length();
    }

    Object crop() {
        if (world.parts.size() == 1) {
            return STATE;
        }
        save();
        World a = world;
        List<Part> parts = new ArrayList<>(a.parts);
        int volume = parts.remove(parts.size() - 1).v;
        world = new World(List.copyOf(parts), a.steps, a.warmth, a.scale, a.heats, a.blows, a.scaled,
                a.cropped + volume, a.taken);
        return volume;
    }

    Object forge(int part, int w, int h, int tolerance) {
        Object blows = way(part, w, h, tolerance);
        if (!(blows instanceof Integer)) {
            return blows;
        }
        List<Integer> way = shortest(world, part, w, h, tolerance);
        if (way == null) {
            return STATE;
        }
        save();
        world = forged(world, part, way);
        return way.size();
    }

    private boolean meets(int part) {
        if (part >= world.steps.size()) {
            return false;
        }
        Part p = world.parts.get(part);
        Step s = world.steps.get(part);
        return fits(p.w, p.h, s.w, s.h, s.tolerance) && p.length() >= s.length;
    }

    Object part(int part, int what) {
        if (noPart(part)) {
            return INDEX;
        }
        if (!within(what, 0, 8)) {
            return ARGUMENT;
        }
        Part p = world.parts.get(part);
        int[] answers = {p.w, p.h, p.v, p.length(), p.blows, possible(p.w, p.h, p.v, 0) ? 1 : 0,
            possible(p.w, p.h, p.v, 1) ? 1 : 0, possible(p.w, p.h, p.v, 2) ? 1 : 0, meets(part) ? 1 : 0};
        return answers[what];
    }

    private int volume() {
        int sum = 0;
        for (Part p : world.parts) {
            sum += p.v;
        }
        return sum;
    }

    private boolean right() {
        boolean right = world.parts.size() == world.steps.size();
        for (int k = 0; k < world.parts.size(); k++) {
            right = right && meets(k);
        }
        return right;
    }

    Object value(int what) {
        if (!within(what, 0, 11)) {
            return ARGUMENT;
        }
        int length = 0;
        for (Part p : world.parts) {
            length += p.length();
        }
        int possible = 0;
        for (int warmth = world.warmth; warmth >= 850; warmth -= 12) {
            possible++;
        }
        int[] answers = {world.parts.size(), world.warmth, world.scale, world.heats, world.blows, volume(),
            world.scaled, world.cropped, length, world.steps.size(), right() ? 1 : 0, possible};
        return answers[what];
    }

    Object tellStep(int w, int h, int tolerance, int length) {
        if (!isWish(w, h, tolerance) || !within(length, 0, 9999)) {
            return ARGUMENT;
        }
        if (world.steps.size() == 8) {
            return STATE;
        }
        save();
        List<Step> steps = new ArrayList<>(world.steps);
        steps.add(new Step(w, h, tolerance, length));
        world = withSteps(world, steps);
        return steps.size() - 1;
    }

    Object clearSteps() {
        save();
        int before = world.steps.size();
        world = withSteps(world, List.of());
        return before;
    }

    Object step(int step, int what) {
        if (step < 0 || step >= world.steps.size()) {
            return INDEX;
        }
        if (!within(what, 0, 3)) {
            return ARGUMENT;
        }
        Step s = world.steps.get(step);
        return new int[] {s.w, s.h, s.tolerance, s.length}[what];
    }

    Object way(int part, int w, int h, int tolerance) {
        if (noPart(part)) {
            return INDEX;
        }
        if (!isWish(w, h, tolerance)) {
            return ARGUMENT;
        }
        List<Integer> way = shortest(world, part, w, h, tolerance);
        return way == null ? -1 : way.size();
    }

    Object blowOf(int part, int w, int h, int tolerance, int index) {
        if (noPart(part) || index < 0) {
            return INDEX;
        }
        if (!isWish(w, h, tolerance)) {
            return ARGUMENT;
        }
        List<Integer> way = shortest(world, part, w, h, tolerance);
        return way == null || index >= way.size() ? -1 : way.get(index);
    }

    Object heatsTo(int part, int w, int h, int tolerance) {
        Object blows = way(part, w, h, tolerance);
        if (!(blows instanceof Integer) || blows.equals(-1)) {
            return blows;
        }
        int heats = 0;
        int warmth = world.warmth;
        for (int i = 0; i < (Integer) blows; i++) {
            if (warmth < 850) {
                warmth = 1250;
                heats++;
            }
            warmth -= 12;
        }
        return heats;
    }

    Object heatsToSteps() {
        World then = world;
        for (int k = 0; k < world.parts.size() && k < world.steps.size(); k++) {
            Step s = world.steps.get(k);
            List<Integer> way = shortest(then, k, s.w, s.h, s.tolerance);
            if (way == null) {
                return -1;
            }
            then = forged(then, k, way);
        }
        return then.heats - world.heats;
    }

    Object lengthAs(int w, int h) {
        return isWish(w, h, 0) ? (Object) (volume() / (w * h)) : ARGUMENT;
    }

    Object kept() {
        return (double) volume() / (double) world.taken;
    }

    Object append(int value) {
        if (!within(value, 0, 127)) {
            return ARGUMENT;
        }
        if (text.length() == 90) {
            return STATE;
        }
        text.append((char) value);
        return text.length();
    }

    Object clearText() {
        int before = text.length();
        text.setLength(0);
        return before;
    }

    private static boolean isDigit(CharSequence text, int index) {
        return text.charAt(index) >= '0' && text.charAt(index) <= '9';
    }

    /** The first position up to which, with it, no text of orders begins; ranges come behind. */
    static int errorPosition(CharSequence text) {
        int viable = 0;
        while (viable < text.length()) {
            Matcher matcher = ORDERS.matcher(text.subSequence(0, viable + 1));
            if (!matcher.matches() && !matcher.hitEnd()) {
                break;
            }
            viable++;
        }
        Matcher number = NUMBER.matcher(text.subSequence(0, viable));
        while (number.find()) {
            boolean ends = number.end() == text.length() || !isDigit(text, number.end());
            int value = Integer.parseInt(number.group(2));
            if (ends && !within(value, 1, number.group(1).equals("x") ? 60 : 9999)) {
                return number.start(2);
            }
        }
        return viable == text.length() && ORDERS.matcher(text).matches() ? -1 : viable;
    }

    Object carryOut() {
        int error = errorPosition(text);
        if (error >= 0) {
            return -10 - error;
        }
        save();
        int done = 0;
        for (String order : text.length() == 0 ? new String[0] : text.toString().split(";")) {
            World then = obeyed(order);
            if (then == null) {
                break;
            }
            world = then;
            done++;
        }
        return done;
    }

    private World obeyed(String order) {
        if (order.equals("h")) {
            return hot(world);
        }
        int part = order.charAt(1) - '0';
        int number = order.length() > 2 ? Integer.parseInt(order.substring(3)) : 1;
        if (order.charAt(0) == 'c') {
            return split(part, number);
        }
        return noPart(part) ? null : struck(world, part, "dtu".indexOf(order.charAt(0)), number);
    }

    Object undo() {
        if (saved.isEmpty()) {
            return STATE;
        }
        world = saved.remove(saved.size() - 1);
        return saved.size();
    }

    Object digest() {
        List<Object> values = new ArrayList<>();
        values.add(text.length());
        for (int what = 0; what <= 11; what++) {
            values.add(value(what));
        }
        for (int part = 0; part < world.parts.size(); part++) {
            for (int what = 0; what <= 8; what++) {
                values.add(part(part, what));
            }
        }
        for (int step = 0; step < world.steps.size(); step++) {
            for (int what = 0; what <= 3; what++) {
                values.add(step(step, what));
            }
        }
        values.add(heatsToSteps());
        values.add(saved.size());
        long h = 3547;
        for (Object value : values) {
            h = 31 * h + (Integer) value;
        }
        return h;
    }
}
