/** Promises 22 to 24: the text of orders. */
public final class TextTests {
    private final Checks checks = new Checks("TextTests");

    public static void main(String[] args) {
        new TextTests().run();
    }

    private void run() {
        append();
        clear();
        syntaxErrors();
        goodTexts();
        orders();
        ordersThatAreNotPossible();
        undoIsOne();
        textStays();
        checks.end();
    }

    private static BarForger with(String text) {
        BarForger x = new BarForger();
        write(x, text);
        return x;
    }

    private static void write(BarForger x, String text) {
        x.clearText();
        for (int i = 0; i < text.length(); i++) {
            x.append(text.charAt(i));
        }
    }

    private void append() {
        BarForger x = new BarForger();
        checks.due("the least byte", x.append(0), 1);
        checks.due("the greatest byte", x.append(127), 2);
        for (int wrong : new int[] {-1, 128, Integer.MIN_VALUE, Integer.MAX_VALUE}) {
            checks.unchanged("a wrong byte", x, IllegalArgumentException.class, () -> x.append(wrong));
        }
        for (int length = 3; length <= 90; length++) {
            checks.due("length", x.append('h'), length);
        }
        checks.unchanged("a byte too many", x, IllegalStateException.class, () -> x.append('h'));
        checks.unchanged("a wrong byte too many", x, IllegalArgumentException.class, () -> x.append(128));
        checks.state("append saves no state", x::undo);
    }

    private void clear() {
        BarForger x = new BarForger();
        checks.due("an empty text", x.clearText(), 0);
        x.append('h');
        x.append(';');
        checks.due("clearText", x.clearText(), 2);
        checks.due("empty then", x.clearText(), 0);
        checks.due("no orders", x.carryOut(), 0);
        checks.due("clearText saves no state", x.undo(), 0);
    }

    private void dueError(String text, int position) {
        BarForger x = with(text);
        long before = x.digest();
        checks.due("carryOut of " + text, x.carryOut(), -10 - position);
        checks.due("a syntax error changes nothing: " + text, x.digest(), before);
        checks.state("a syntax error saves no state: " + text, x::undo);
    }

    private void syntaxErrors() {
        String[] tooShort = {"d", "d0", "d0x", "d0x1", "d0x60", "t", "t7", "u", "u3x5", "h", "c", "c0", "c0,", "c0,1",
            "c0,9999", "h;h", "h;c0", "d0;d"};
        for (String text : tooShort) {
            dueError(text, text.length());
        }
        dueError("a;", 0);
        dueError(";", 0);
        dueError("h;;", 2);
        dueError(" h;", 0);
        dueError("h ;", 1);
        dueError("H;", 0);
        dueError("hx;", 1);
        dueError("h0;", 1);
        dueError("d8;", 1);
        dueError("d;", 1);
        dueError("d/;", 1);
        dueError("d:;", 1);
        dueError("dx1;", 1);
        dueError("d00;", 2);
        dueError("d0,1;", 2);
        dueError("d0x;", 3);
        dueError("d0x-1;", 3);
        dueError("d0xx1;", 3);
        dueError("d0x1h;", 4);
        dueError("d0x12x;", 5);
        dueError("d0x/;", 3);
        dueError("d0x:;", 3);
        dueError("t0x5 ;", 4);
        dueError("c8,1;", 1);
        dueError("c0;", 2);
        dueError("c0x1;", 2);
        dueError("c0,;", 3);
        dueError("c01,1;", 2);
        dueError("c0,1,;", 4);
        dueError("c0,1234h", 7);
        dueError("h;d0;t0x2;c0,5;u9;", 16);
        numbersOutOfRange();
    }

    private void numbersOutOfRange() {
        String[] follow = {"", ";", "x", "h", " ", ",", "/", ":"};
        for (String byteBehind : follow) {
            dueError("d0x0" + byteBehind, 3);
            dueError("t0x00" + byteBehind, 3);
            dueError("u0x61" + byteBehind, 3);
            dueError("d0x99" + byteBehind, 3);
            dueError("c0,0" + byteBehind, 3);
            dueError("c0,0000" + byteBehind, 3);
        }
        dueError("d0x610", 5);
        dueError("d0x000;", 5);
        dueError("d0x060;", 5);
        dueError("c0,00000", 7);
        dueError("c0,99999;", 7);
        dueError("c0,00001;", 7);
        dueError("h;d0x61;a", 5);
        dueError("h;d0x60;a", 8);
    }

    private void goodTexts() {
        String[] good = {"d0;", "t0;", "u0;", "h;", "c0,1;", "d0x1;", "d0x01;", "d0x9;", "d0x10;", "d0x60;", "u0x60;",
            "c0,9999;", "c0,0001;", "c0,100;", "d7;", "t7x59;", "c7,12;", "h;d0x2;c0,3;"};
        for (String text : good) {
            checks.holds("no syntax error in " + text, with(text).carryOut() >= 0);
        }
    }

    private void orders() {
        BarForger x = with("d0x2;t0;h;c0,20;d1x03;h;c1,0005;t2x10;");
        BarForger y = new BarForger();
        checks.due("carryOut", x.carryOut(), 8);
        y.blow(0, 0, 2);
        y.blow(0, 1, 1);
        y.heat();
        y.cut(0, 20);
        y.blow(1, 0, 3);
        y.heat();
        y.cut(1, 5);
        y.blow(2, 1, 10);
        dueAlike(x, y);
        x.take(20, 20, 8000);
        y.take(20, 20, 8000);
        write(x, "u0x5;u0;");
        checks.due("upsets", x.carryOut(), 2);
        y.blow(0, 2, 6);
        dueAlike(x, y);
        StringBuilder heats = new StringBuilder();
        for (int order = 0; order < 45; order++) {
            heats.append("h;");
        }
        checks.due("the most orders", with(heats.toString()).carryOut(), 45);
    }

    private void dueAlike(BarForger x, BarForger y) {
        for (int what = 0; what <= 11; what++) {
            checks.due("value(" + what + ")", x.value(what), y.value(what));
        }
        for (int part = 0; part < y.value(0); part++) {
            for (int what = 0; what <= 8; what++) {
                checks.due("part(" + part + ", " + what + ")", x.part(part, what), y.part(part, what));
            }
        }
    }

    private void dueOrders(String text, int want) {
        checks.due("carryOut of " + text, with(text).carryOut(), want);
    }

    /** A small bar, of which just the warmth limits the upsets. */
    private void dueUpsets(String text, int want) {
        BarForger x = with(text);
        x.take(20, 20, 10000);
        checks.due("carryOut of " + text, x.carryOut(), want);
    }

    private void ordersThatAreNotPossible() {
        dueOrders("", 0);
        dueOrders("u0;h;", 0);
        dueOrders("h;u0;h;", 1);
        dueOrders("d1;", 0);
        dueOrders("c1,1;", 0);
        dueOrders("c0,250;", 0);
        dueOrders("c0,249;", 1);
        dueOrders("c0,1;c1,1;c2,1;c3,1;c4,1;c5,1;c6,1;c7,1;h;", 7);
        dueUpsets("u0x5;u0x29;h;", 3);
        dueUpsets("u0x5;u0x30;h;", 1);
        dueUpsets("u0x35;h;", 0);
        BarForger x = with("h;d0;d0x60;h;");
        checks.due("up to the one that is not possible", x.carryOut(), 2);
        checks.due("heats", x.value(3), 1);
        checks.due("blows", x.value(4), 1);
        checks.due("width", x.part(0, 0), 41);
        checks.due("height", x.part(0, 1), 36);
        BarForger cold = with("d0;");
        cold.pause(21);
        checks.due("cold", cold.carryOut(), 0);
        write(cold, "h;d0x34;");
        checks.due("heated, but too low then", cold.carryOut(), 1);
    }

    private void undoIsOne() {
        BarForger x = with("d0;t0;h;c0,5;");
        x.pause(1);
        long before = x.digest();
        x.carryOut();
        checks.due("one saved state", x.undo(), 1);
        checks.due("all is undone", x.digest(), before);
        BarForger empty = new BarForger();
        checks.due("nothing to carry out", empty.carryOut(), 0);
        checks.due("a saved state all the same", empty.undo(), 0);
        BarForger none = with("u0;");
        checks.due("not one is possible", none.carryOut(), 0);
        checks.due("a saved state all the same", none.undo(), 0);
    }

    private void textStays() {
        BarForger x = with("d0;");
        checks.due("carryOut", x.carryOut(), 1);
        checks.due("carryOut again", x.carryOut(), 1);
        checks.due("blows", x.value(4), 2);
        checks.due("undo leaves the text", x.undo(), 1);
        checks.due("carryOut", x.carryOut(), 1);
        x.take(30, 30, 30000);
        checks.due("take leaves the text", x.clearText(), 3);
        write(x, "h;h");
        checks.due("an error", x.carryOut(), -13);
        checks.due("the text with an error stays", x.append(';'), 4);
        checks.due("carryOut", x.carryOut(), 2);
    }
}
