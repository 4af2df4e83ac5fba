import java.util.List;

/** Long runs of calls, each answered by BarForger and by the model; the same runs at each start. */
public final class ModelTests {
    private static final int RUNS = 300;
    private static final int STEPS = 100;
    private static final int[] EDGES = {Integer.MIN_VALUE, -1, 0, 1, 2, 4, 5, 8, 9, 50, 51, 60, 61, 100, 101, 127, 128,
        9999, 10000, 9000000, 9000001, Integer.MAX_VALUE};
    private static final String LETTERS = "dtuhcx,;0123456789 ";

    private final Checks checks = new Checks("ModelTests");
    private long seed = 20261119;
    private BarForger x;
    private Model model;

    public static void main(String[] args) {
        new ModelTests().run();
    }

    private void run() {
        for (int run = 0; run < RUNS; run++) {
            x = new BarForger();
            model = new Model();
            for (int step = 0; step < STEPS; step++) {
                call("run " + run + " step " + step);
            }
        }
        ways();
        positions();
        checks.end();
    }

    /** A row of numbers that is the same at each start. */
    private int next(int bound) {
        seed = seed * 6364136223846793005L + 1442695040888963407L;
        return (int) ((seed >>> 33) % bound);
    }

    /** Mostly within the range, at times at its edges or outside. */
    private int number(int least, int most) {
        int way = next(40);
        if (way == 0) {
            return EDGES[next(EDGES.length)];
        }
        return way == 1 ? least : way == 2 ? most : least + next(most - least + 1);
    }

    private int somePart() {
        return next(20) == 0 ? number(-1, 8) : next(Math.max(1, x.value(0)));
    }

    /** Near the part's own sides at times, so that there is a way often. */
    private int side(int part, int what) {
        if (next(3) == 0 || part < 0 || part >= x.value(0)) {
            return number(5, 100);
        }
        return Math.max(5, x.part(part, what) - next(20) + 6);
    }

    private int tolerance() {
        return number(0, 9);
    }

    private void alike(String what, Checks.Call call, Object want) {
        Object got;
        try {
            got = call.run();
        } catch (RuntimeException thrown) {
            got = thrown.getClass();
        }
        checks.holds(what + " answered " + got + ", due is " + want, want.equals(got));
    }

    private void call(String at) {
        int part = somePart();
        int w = side(part, 0);
        int h = side(part, 1);
        int t = tolerance();
        switch (next(26)) {
            case 0 -> take(at);
            case 1 -> {
                int scale = number(0, 50);
                alike(at + " setScale", () -> x.setScale(scale), model.setScale(scale));
            }
            case 2, 3, 4, 5 -> {
                int kind = number(0, 2);
                int blows = next(4) == 0 ? number(1, 60) : 1 + next(5);
                alike(at + " blow", () -> x.blow(part, kind, blows), model.blow(part, kind, blows));
            }
            case 6 -> alike(at + " heat", x::heat, model.heat());
            case 7 -> {
                int minutes = next(2) == 0 ? number(1, 60) : 1 + next(8);
                alike(at + " pause", () -> x.pause(minutes), model.pause(minutes));
            }
            case 8, 9, 10 -> {
                int length = next(4) == 0 ? number(1, 9999) : 1 + next(40);
                alike(at + " cut", () -> x.cut(part, length), model.cut(part, length));
            }
            case 11, 12 -> alike(at + " weld", () -> x.weld(part), model.weld(part));
            case 13 -> alike(at + " crop", x::crop, model.crop());
            case 14, 15 -> alike(at + " forge", () -> x.forge(part, w, h, t), model.forge(part, w, h, t));
            case 16, 17 -> {
                int length = next(2) == 0 ? next(20) : number(0, 9999);
                alike(at + " tellStep", () -> x.tellStep(w, h, t, length), model.tellStep(w, h, t, length));
            }
            case 18 -> {
                if (next(3) == 0) {
                    alike(at + " clearSteps", x::clearSteps, model.clearSteps());
                }
            }
            case 19 -> alike(at + " heatsTo", () -> x.heatsTo(part, w, h, t), model.heatsTo(part, w, h, t));
            case 20, 21 -> text(at);
            case 22, 23 -> {
                for (int times = next(3); times >= 0; times--) {
                    alike(at + " undo", x::undo, model.undo());
                }
            }
            case 24 -> questions(at, part, w, h, t);
            default -> everything(at);
        }
    }

    private void take(String at) {
        int w = next(2) == 0 ? number(5, 100) : 10 + next(30);
        int h = next(2) == 0 ? number(5, 100) : 10 + next(30);
        int v = next(3) == 0 ? number(1, 9000000) : 1 + next(100000);
        alike(at + " take", () -> x.take(w, h, v), model.take(w, h, v));
    }

    private void questions(String at, int part, int w, int h, int t) {
        int index = number(-1, 12);
        int step = next(2) == 0 ? number(-1, 8) : next(3);
        int what = number(-1, 12);
        alike(at + " way", () -> x.way(part, w, h, t), model.way(part, w, h, t));
        alike(at + " blowOf", () -> x.blowOf(part, w, h, t, index), model.blowOf(part, w, h, t, index));
        alike(at + " part", () -> x.part(part, what), model.part(part, what));
        alike(at + " value", () -> x.value(what), model.value(what));
        alike(at + " step", () -> x.step(step, what), model.step(step, what));
        alike(at + " lengthAs", () -> x.lengthAs(w, h), model.lengthAs(w, h));
    }

    private void everything(String at) {
        alike(at + " heatsToSteps", x::heatsToSteps, model.heatsToSteps());
        alike(at + " kept", x::kept, model.kept());
        alike(at + " digest", x::digest, model.digest());
    }

    private void text(String at) {
        if (next(4) > 0) {
            alike(at + " clearText", x::clearText, model.clearText());
        }
        String orders = next(3) == 0 ? garbled() : good();
        for (int i = 0; i < orders.length(); i++) {
            int value = orders.charAt(i);
            alike(at + " append", () -> x.append(value), model.append(value));
        }
        if (next(10) == 0) {
            int value = number(-1, 128);
            alike(at + " append", () -> x.append(value), model.append(value));
        }
        alike(at + " carryOut of " + orders, x::carryOut, model.carryOut());
        everything(at);
    }

    private String good() {
        StringBuilder orders = new StringBuilder();
        for (int count = next(8); count > 0; count--) {
            int part = next(5) == 0 ? next(8) : next(Math.min(8, x.value(0) + 1));
            switch (next(4)) {
                case 0 -> orders.append("h;");
                case 1 -> orders.append('c').append(part).append(',').append(1 + next(60)).append(';');
                case 2 -> orders.append("dtu".charAt(next(3))).append(part).append(';');
                default -> orders.append("dtu".charAt(next(3))).append(part).append('x').append(1 + next(9))
                        .append(';');
            }
        }
        return orders.toString();
    }

    private String garbled() {
        StringBuilder orders = new StringBuilder(good());
        for (int count = next(3); count >= 0; count--) {
            char letter = LETTERS.charAt(next(LETTERS.length()));
            int index = next(orders.length() + 1);
            if (next(2) == 0 && index < orders.length()) {
                orders.setCharAt(index, letter);
            } else {
                orders.insert(index, letter);
            }
        }
        return orders.toString();
    }

    /** Every blow of many ways. */
    private void ways() {
        for (int count = 0; count < 3000; count++) {
            int w = 5 + next(96);
            int h = next(3) == 0 ? w : 5 + next(96);
            int v = next(2) == 0 ? 1 + next(9000000) : 1 + w * h * (1 + next(3 * Math.min(w, h)));
            int ww = 5 + next(96);
            int wh = next(2) == 0 ? ww : 5 + next(96);
            int t = next(10);
            BarForger y = new BarForger();
            y.take(w, h, Math.min(v, 9000000));
            List<Integer> way = Model.shortest(w, h, Math.min(v, 9000000), ww, wh, t);
            String what = "way " + w + " " + h + " " + v + " to " + ww + " " + wh + " " + t;
            int blows = way == null ? -1 : way.size();
            checks.due(what, y.way(0, ww, wh, t), blows);
            for (int index = 0; index <= blows; index++) {
                checks.due(what, y.blowOf(0, ww, wh, t, index), index < blows ? way.get(index) : -1);
            }
        }
    }

    /** Many short texts of the letters that matter. */
    private void positions() {
        for (int count = 0; count < 30000; count++) {
            StringBuilder orders = new StringBuilder();
            for (int length = next(9); length > 0; length--) {
                orders.append(LETTERS.charAt(next(LETTERS.length())));
            }
            if (next(2) == 0) {
                orders.insert(0, next(2) == 0 ? "d0x" : "c0,");
            }
            checkPosition(orders);
        }
    }

    private void checkPosition(CharSequence orders) {
        BarForger y = new BarForger();
        for (int i = 0; i < orders.length(); i++) {
            y.append(orders.charAt(i));
        }
        int want = Model.errorPosition(orders);
        int got = y.carryOut();
        checks.holds("carryOut of " + orders + " answered " + got, want < 0 ? got >= 0 : got == -10 - want);
    }
}
