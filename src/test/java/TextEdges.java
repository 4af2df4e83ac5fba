import java.util.function.IntUnaryOperator;

/** Edges of the sentences of the text, in "Terms" and in promises 22 to 24. */
final class TextEdges {
    private static final int GOOD = -1;

    private final Edges edges;

    TextEdges(Edges edges) {
        this.edges = edges;
    }

    void run() {
        lengthOfText();
        noOrders();
        bytesOfOrders();
        bytesOfBlows();
        bytesOfCuts();
        digitsTooMany();
        textsTooShort();
        numbersOfBlows();
        numbersOfCuts();
        numbersFollowed();
        firstError();
        append();
        clearText();
        carryOutAnswers();
        carryOutPossible();
        carryOutBlows();
        carryOutUndo();
    }

    private static Edges.Setup text(String text) {
        return x -> Edges.write(x, text);
    }

    private static Edges.Setup times(String order, int times) {
        return text(order.repeat(times));
    }

    /** Where the text's syntax error is; none if it is good. */
    private void dueError(String text, int position) {
        if (position == GOOD) {
            edges.due(text(text), x -> x.carryOut() >= 0, true);
        } else {
            edges.due(text(text), BarForger::carryOut, -10 - position);
        }
    }

    /** The text and each of all bytes behind it, with the position of the syntax error then. */
    private void dueBytes(String before, IntUnaryOperator position) {
        for (int value = 0; value <= 127; value++) {
            dueError(before + (char) value, position.applyAsInt(value));
        }
    }

    private static boolean isDigit(int value) {
        return value >= '0' && value <= '9';
    }

    /** Some bytes can stand behind the text, and leave it too short; the others cannot. */
    private void dueStanding(String before, String standing) {
        int length = before.length();
        dueBytes(before, value -> standing.indexOf(value) >= 0 ? length + 1 : length);
    }

    /** As before, but a semicolon makes the text good. */
    private void dueEnding(String before, String standing) {
        int length = before.length();
        dueBytes(before, value -> value == ';' ? GOOD : standing.indexOf(value) >= 0 ? length + 1 : length);
    }

    private void lengthOfText() {
        edges.says("Terms", "The text has at most 90 bytes.");
        edges.due(times("h", 88), x -> x.append('h'), 89);
        edges.due(times("h", 89), x -> x.append('h'), 90);
        edges.refused(times("h", 90), x -> x.append('h'), Edges.STATE);
        edges.due(times("h;", 44), BarForger::carryOut, 44);
        edges.due(times("h;", 45), BarForger::carryOut, 45);
        edges.due(text("h;".repeat(44) + "h"), BarForger::carryOut, -10 - 89);
        edges.due(text("h;".repeat(44) + "d0"), BarForger::carryOut, -10 - 90);
        edges.due(text("h;".repeat(44) + "d8"), BarForger::carryOut, -10 - 89);
        edges.due(text("h;".repeat(44) + "hh"), BarForger::carryOut, -10 - 89);
        edges.due(text("c0,0001;c1,0001;c2,0001;c3,0001;c4,0001;c5,0001;c6,0001;" + "d7x01;".repeat(5) + "d7;h"),
                BarForger::carryOut, -10 - 90);
        edges.due(text("c0,0001;c1,0001;c2,0001;c3,0001;c4,0001;c5,0001;c6,0001;" + "d7x01;".repeat(5) + "h;h;"),
                BarForger::carryOut, 14);
    }

    private void noOrders() {
        edges.says("Terms", "There are no spaces; there may be no orders.");
        edges.due(Edges.NEW, BarForger::carryOut, 0);
        edges.due(Edges.all(text("h;"), BarForger::clearText), BarForger::carryOut, 0);
        dueError(" ", 0);
        dueError(";", 0);
        dueError("h; ", 2);
        dueError("h ;", 1);
        dueError("d 0;", 1);
        dueError("d0 ;", 2);
        dueError("d0x 1;", 3);
        dueError("d0x1 ;", 4);
        dueError("c0, 1;", 3);
        dueError("c0 ,1;", 2);
        dueError("h;;", 2);
    }

    private void bytesOfOrders() {
        edges.says("Terms", "It is a sequence of orders, each terminated by a semicolon");
        dueStanding("", "dtuhc");
        dueStanding("h;", "dtuhc");
        dueStanding("d0;t1x2;c3,4;", "dtuhc");
        edges.says("Terms", "\"h\", a heat");
        dueEnding("h", "");
        dueEnding("h;h", "");
        edges.due(text("h;h;"), x -> x.carryOut() * 100 + x.value(3), 202);
    }

    private void bytesOfBlows() {
        edges.says("Terms", "\"d\", \"t\" or \"u\" (draw, draw turned, upset), a part digit 0 to 7, and perhaps "
                + "\"x\" and a number of blows of one or two digits, 1 to 60");
        for (String letter : new String[] {"d", "t", "u"}) {
            dueStanding(letter, "01234567");
            for (int part = 0; part <= 7; part++) {
                dueEnding(letter + part, "x");
            }
            dueBytes(letter + "0x", value -> value == '0' || !isDigit(value) ? 3 : 4);
            dueEnding(letter + "0x1", "0123456789");
            dueEnding(letter + "0x5", "0123456789");
            dueBytes(letter + "7x6", value -> value == ';' ? GOOD : value == '0' ? 5 : isDigit(value) ? 3 : 4);
            dueBytes(letter + "7x7", value -> value == ';' ? GOOD : isDigit(value) ? 3 : 4);
            dueBytes(letter + "7x0", value -> isDigit(value) && value != '0' ? 5 : 3);
            dueEnding(letter + "0x60", "");
            dueEnding(letter + "0x01", "");
        }
    }

    private void bytesOfCuts() {
        edges.says("Terms", "\"c\", a part digit, \",\", and a length of one to four digits, 1 to 9999, a cut.");
        dueStanding("c", "01234567");
        for (int part = 0; part <= 7; part++) {
            dueStanding("c" + part, ",");
        }
        dueBytes("c0,", value -> value == '0' || !isDigit(value) ? 3 : 4);
        dueEnding("c0,1", "0123456789");
        dueEnding("c7,99", "0123456789");
        dueEnding("c0,999", "0123456789");
        dueBytes("c0,0", value -> isDigit(value) && value != '0' ? 5 : 3);
        dueBytes("c0,000", value -> isDigit(value) && value != '0' ? 7 : 3);
        dueEnding("c0,9999", "");
        dueEnding("c0,0001", "");
    }

    private void digitsTooMany() {
        edges.says("Terms", "The syntax error position is the index of the first byte that cannot stand where it "
                + "stands (a digit too many, too)");
        dueBytes("d0x61", value -> isDigit(value) ? 5 : 3);
        dueBytes("u0x00", value -> isDigit(value) ? 5 : 3);
        dueBytes("t0x99", value -> isDigit(value) ? 5 : 3);
        dueBytes("c0,0000", value -> isDigit(value) ? 7 : 3);
        dueError("d0x600;", 5);
        dueError("d0x001;", 5);
        dueError("c0,10000;", 7);
        dueError("c0,00001;", 7);
        dueError("d00;", 2);
        dueError("c00,1;", 2);
        dueError("h0;", 1);
    }

    private void textsTooShort() {
        edges.says("Terms", "or the length of the text if the text ends too early.");
        String good = "h;d0;t1x2;u7x60;c3,4;c5,9999;";
        for (int length = 1; length <= good.length(); length++) {
            String text = good.substring(0, length);
            dueError(text, text.endsWith(";") ? GOOD : length);
        }
    }

    private void numbersOfBlows() {
        edges.says("Terms", "a number of blows of one or two digits, 1 to 60");
        for (int blows = 0; blows <= 99; blows++) {
            boolean good = blows >= 1 && blows <= 60;
            dueError("d0x" + blows + ";", good ? GOOD : 3);
            if (blows <= 9) {
                dueError("t0x0" + blows + ";", good ? GOOD : 3);
            }
        }
        edges.due(Edges.all(Edges.taken(12, 12, 5300), text("u0x34;")), BarForger::carryOut, 1);
        edges.due(Edges.all(Edges.taken(12, 12, 5300), text("u0x35;")), BarForger::carryOut, 0);
        edges.due(Edges.all(Edges.taken(12, 12, 5300), text("u0x9;u0x09;")), x -> x.carryOut() + x.value(4), 20);
    }

    private void numbersOfCuts() {
        edges.says("Terms", "a length of one to four digits, 1 to 9999, a cut.");
        for (String zero : new String[] {"0", "00", "000", "0000"}) {
            dueError("c0," + zero + ";", 3);
        }
        for (String one : new String[] {"1", "01", "001", "0001", "2", "9", "99", "999", "9998", "9999"}) {
            dueError("c0," + one + ";", GOOD);
            Edges.Setup cut = Edges.all(Edges.taken(5, 5, 9000000), text("c0," + one + ";"));
            edges.due(cut, x -> x.carryOut() * 0 + x.part(0, 3), Integer.parseInt(one));
        }
    }

    private void numbersFollowed() {
        edges.says("Terms", "For a number that is out of its range it is the index of its first digit, found when a "
                + "byte that is no digit, whichever it is, or the end of the text, follows it.");
        for (String wrong : new String[] {"d0x0", "d0x00", "t0x61", "u0x99", "c0,0", "c0,00", "c0,000", "c0,0000"}) {
            dueError(wrong, 3);
            for (int value = 0; value <= 127; value++) {
                if (!isDigit(value)) {
                    dueError(wrong + (char) value, 3);
                    dueError("h;" + wrong + (char) value, 5);
                }
            }
        }
        dueError("d0x60", 5);
        dueError("d0x60h", 5);
        dueError("c0,9999", 7);
        dueError("c0,9999h", 7);
    }

    private void firstError() {
        edges.says("Terms", "the index of the first byte that cannot stand where it stands");
        dueError("d0x61;a", 3);
        dueError("d0x60;a", 6);
        dueError("a;d0x61;", 0);
        dueError("d8x61;", 1);
        dueError("c8,0;", 1);
        dueError("d0x611", 5);
        dueError("hd0x0;", 1);
    }

    private void append() {
        edges.says("Promise 22", "value: the byte, 0 to 127");
        edges.range(Edges.NEW, 0, 127, BarForger::append, value -> 1);
        edges.range(Edges.BUSY, 0, 127, BarForger::append, value -> 11);
        edges.says("Promise 22", "Returns the new length of the text.");
        edges.due(times("h", 89), x -> x.append(127), 90);
        edges.due(times("h", 1), x -> x.append(0), 2);
        edges.says("Promise 22", "Throws IllegalArgumentException if value is out of range");
        edges.outside(times("h", 89), 0, 127, BarForger::append, Edges.ARGUMENT);
        edges.outside(times("h", 90), 0, 127, BarForger::append, Edges.ARGUMENT);
        edges.says("Promise 22", "Throws IllegalStateException if the text has 90 bytes");
        edges.due(times("h", 88), x -> x.append(';'), 89);
        edges.due(times("h", 89), x -> x.append(';'), 90);
        edges.refused(times("h", 90), x -> x.append(';'), Edges.STATE);
        edges.refused(times("h;", 45), x -> x.append(0), Edges.STATE);
        edges.due(Edges.all(times("h", 90), BarForger::clearText), x -> x.append(';'), 1);
        edges.says("Promise 22", "Appends a byte to the text.");
        edges.due(text("h"), x -> x.append(';') + x.carryOut() + x.value(3), 2 + 1 + 1);
        edges.refused(Edges.all(Edges.NEW, x -> x.append('h')), BarForger::undo, Edges.STATE);
    }

    private void clearText() {
        edges.says("Promise 23", "Returns the length that it had.");
        edges.due(Edges.NEW, BarForger::clearText, 0);
        edges.due(text("h"), BarForger::clearText, 1);
        edges.due(times("h", 89), BarForger::clearText, 89);
        edges.due(times("h", 90), BarForger::clearText, 90);
        edges.due(times("h", 90), x -> x.clearText() * 0 + x.clearText(), 0);
        edges.says("Promise 23", "Empties the text.");
        edges.due(text("h;h;"), x -> x.clearText() * 0 + x.carryOut(), 0);
        edges.due(text("h;h;"), x -> x.clearText() * 0 + x.append('h') * 0 + x.carryOut(), -11);
        edges.refused(Edges.all(text("h;"), BarForger::clearText), BarForger::undo, Edges.STATE);
        edges.question(Edges.NEW, BarForger::clearText);
    }

    private void carryOutAnswers() {
        edges.says("Promise 24", "Returns the number of orders that are carried out; -10 minus the syntax error "
                + "position if there is a syntax error (then nothing changes).");
        edges.due(Edges.NEW, BarForger::carryOut, 0);
        edges.due(text("h;"), BarForger::carryOut, 1);
        edges.due(text(";"), BarForger::carryOut, -10);
        edges.due(text("hh"), BarForger::carryOut, -11);
        edges.due(times("h;", 45), BarForger::carryOut, 45);
        edges.due(times("h", 90), BarForger::carryOut, -11);
        String[] wrong = {";", "h", "h;h", "h;d0;a;", "d0;d8;", "h;c0,0;", "h;d0x61", "u0;;", "h;".repeat(44) + "c0"};
        for (String text : wrong) {
            edges.question(text(text), BarForger::carryOut);
            edges.question(Edges.all(Edges.BUSY, text(text)), BarForger::carryOut);
        }
        Edges.Setup longer = Edges.all(text("h;d0;h;"), BarForger::carryOut);
        edges.due(Edges.all(longer, text("t0;")), x -> x.carryOut() * 100 + x.value(3) * 10 + x.value(4), 100 + 20 + 2);
        edges.due(Edges.all(longer, text("")), x -> x.carryOut() * 100 + x.value(3) * 10 + x.value(4), 20 + 1);
        edges.says("Promise 24", "The text stays as it is.");
        edges.due(text("h;"), x -> x.carryOut() * 0 + x.clearText(), 2);
        edges.due(text("h;"), x -> x.carryOut() + x.carryOut() + x.value(3), 4);
        edges.due(text("u0;"), x -> x.carryOut() + x.append('h'), 4);
        edges.due(text("h;h"), x -> x.carryOut() * 0 + x.append(';') * 0 + x.carryOut(), 2);
    }

    private void dueOrders(String text, int orders) {
        edges.due(Edges.all(Edges.taken(20, 20, 8000), text(text)), BarForger::carryOut, orders);
    }

    private void carryOutPossible() {
        edges.says("Promise 24", "Carries out the orders of the text, up to the first one that is not possible");
        dueOrders("d0;", 1);
        dueOrders("d1;", 0);
        dueOrders("t7;h;", 0);
        dueOrders("c0,5;d1;", 2);
        dueOrders("c0,5;u2;", 1);
        dueOrders("c0,5;c1,5;u2;", 3);
        dueOrders("c1,1;", 0);
        dueOrders("c0,1;c1,1;", 2);
        dueOrders("c0,19;", 1);
        dueOrders("c0,20;", 0);
        dueOrders("c0,21;", 0);
        dueOrders("h;c0,19;", 1);
        dueOrders("c0,1;c1,1;c2,1;c3,1;c4,1;c5,1;c6,1;", 7);
        dueOrders("c0,1;c1,1;c2,1;c3,1;c4,1;c5,1;c6,1;c7,1;h;", 7);
        dueOrders("u0x34;u0;", 1);
        edges.due(Edges.all(Edges.taken(20, 20, 8000), x -> x.pause(20), text("d0;d0;")), BarForger::carryOut, 1);
        edges.due(Edges.all(Edges.taken(20, 20, 8000), x -> x.pause(20), text("d0;h;d0;")), BarForger::carryOut, 3);
        edges.due(Edges.all(Edges.taken(20, 20, 8000), x -> x.pause(21), text("d0;")), BarForger::carryOut, 0);
        edges.due(Edges.all(Edges.taken(20, 20, 8000), x -> x.pause(60), text("c0,1;")), BarForger::carryOut, 1);
        edges.due(Edges.all(Edges.taken(20, 20, 8000), text("h;c0,30;h;")), x -> x.carryOut() + x.value(3), 1 + 1);
        edges.due(Edges.all(Edges.taken(20, 20, 8000), text("c0,5;t1x2;")), x -> x.carryOut() * 0 + x.part(1, 4), 2);
        edges.due(Edges.all(Edges.taken(20, 20, 8000), text("c0,5;t1x2;")), x -> x.carryOut() * 0 + x.part(0, 4), 0);
    }

    private void dueBlows(Edges.Setup bar, String text, int orders, int blows) {
        Edges.Setup setup = Edges.all(bar, text(text));
        edges.due(setup, BarForger::carryOut, orders);
        edges.due(setup, x -> x.carryOut() * 0 + x.value(4), blows);
        edges.due(setup, x -> x.carryOut() * 0 + x.value(1), 1250 - 12 * blows);
    }

    private void carryOutBlows() {
        edges.says("Promise 24", "(blows that are not all possible are not begun)");
        Edges.Setup flat = Edges.taken(50, 10, 5000);
        dueBlows(flat, "d0x5;", 1, 5);
        dueBlows(flat, "d0x6;", 0, 0);
        dueBlows(flat, "d0;d0x5;", 1, 1);
        dueBlows(flat, "d0;d0x4;", 2, 5);
        Edges.Setup thin = Edges.taken(10, 50, 5000);
        dueBlows(thin, "t0x5;t0;", 1, 5);
        dueBlows(thin, "t0x6;t0;", 0, 0);
        Edges.Setup small = Edges.taken(12, 12, 5300);
        dueBlows(small, "u0x34;", 1, 34);
        dueBlows(small, "u0x35;", 0, 0);
        dueBlows(small, "u0x30;u0x4;u0;", 2, 34);
        dueBlows(small, "u0x30;u0x5;u0;", 1, 30);
        dueBlows(Edges.taken(20, 20, 440), "u0x2;", 0, 0);
        dueBlows(Edges.taken(20, 20, 441), "u0x2;", 1, 2);
    }

    private void carryOutUndo() {
        edges.says("Promise 24", "Undoable (one saved state), if there is no syntax error.");
        for (String text : new String[] {"", "h;", "d0;h;t0;c0,5;", "u0x60;", "d0;u0x60;h;", "h;".repeat(45)}) {
            edges.undoable(text(text), BarForger::carryOut);
            edges.undoable(Edges.all(Edges.CALM, text(text)), BarForger::carryOut);
            edges.due(text(text), x -> x.carryOut() * 0 + x.undo(), 0);
            edges.due(Edges.all(Edges.BUSY, text(text)), x -> x.carryOut() * 0 + x.undo(), 3);
        }
        edges.refused(Edges.all(text("h;h"), BarForger::carryOut), BarForger::undo, Edges.STATE);
        edges.due(Edges.all(text("h;h"), x -> x.pause(1), BarForger::carryOut), BarForger::undo, 0);
    }
}
