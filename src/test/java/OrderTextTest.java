/** Promises 26 to 29: the buffer, its first error, and running the orders. */
final class OrderTextTest {
    private static final Class<?> WRONG = IllegalArgumentException.class;
    private static final Class<?> NOT_NOW = IllegalStateException.class;
    private static final Check CHECK = new Check("OrderTextTest");

    public static void main(String[] args) {
        promise26Append();
        promise27ClearText();
        promise28RightTexts();
        promise28Errors();
        promise28LongText();
        promise29EachOrder();
        promise29Stops();
        promise29StopsOfEachOrder();
        promise29Refusals();
        promise29Undo();
        CHECK.end();
    }

    private static void promise26Append() {
        VaultShelves x = new VaultShelves();
        for (int code : new int[] {32, 127, 0, -1, 256 + 97, Integer.MIN_VALUE, Integer.MAX_VALUE}) {
            CHECK.refused("26: code " + code, x, WRONG, () -> x.append(code));
        }
        CHECK.equal("26: least", x.append(33), 1);
        CHECK.equal("26: greatest", x.append(126), 2);
        for (int i = 3; i <= 60; i++) {
            CHECK.equal("26: length " + i, x.append('a'), i);
        }
        CHECK.refused("26: 60 characters", x, NOT_NOW, () -> x.append('a'));
        CHECK.refused("26: code before length", x, WRONG, () -> x.append(32));
        CHECK.equal("26: no state is saved", x.savedStates(), 0);
        CHECK.equal("26: 60 in all", x.clearText(), 60);
        CHECK.equal("26: then again", x.append('a'), 1);
    }

    private static void promise27ClearText() {
        VaultShelves x = new VaultShelves();
        CHECK.equal("27: empty", x.clearText(), 0);
        x.append('x');
        x.append('y');
        CHECK.equal("27: two", x.clearText(), 2);
        CHECK.equal("27: empty again", x.clearText(), 0);
        CHECK.equal("27: no error left", x.firstError(), 0);
        CHECK.equal("27: no state is saved", x.savedStates(), 0);
    }

    private static void firstErrorIs(String text, int due) {
        VaultShelves x = new VaultShelves();
        Check.write(x, text);
        CHECK.equal("28: " + text, x.firstError(), due);
        CHECK.equal("28: the buffer stays", x.clearText(), text.length());
    }

    private static void promise28RightTexts() {
        String[] texts = {
            "", "a", "ad", "add", "add1", "add9", "add10", "add30", "add29@", "add1@0", "add30@5", "c", "cal", "call",
            "call0", "call1", "call9", "call10", "call15", "lose0", "lose15@", "lose2@5", "l", "lo", "los", "m", "mo",
            "mon", "mont", "month", "n", "ni", "nig", "nigh", "night", "night1", "night9", "night10", "night20",
            "month;", "month;c", "call0;call15;", "add3@0;lose1@1;month;night2;call3",
        };
        for (String text : texts) {
            firstErrorIs(text, text.length());
        }
    }

    /** The bar stands before the first error. */
    private static void promise28Errors() {
        String[] texts = {
            "|x", "|;", "|@", "|0", "|A", "a|a", "ad|1", "add|0", "add|@", "add|;", "add3|1", "add4|0", "add10|0",
            "add1|;", "add1@|6", "add1@|;", "add1@0|0", "add1@0|@", "add1@0|a", "call|;", "call|@", "call0|0",
            "call0|1", "call1|6", "call2|0", "call10|0", "call1|@0", "lose|@", "lose0|;", "lose1|6", "lose1@|9",
            "lose1@2|,", "month|s", "month|1", "month|month", "month;|;", "night|0", "night2|1", "night3|0",
            "night20|0", "night1|@", "n|x", "n|o", "m|i", "c|c", "call0;|x", "call0;call|x0;zz", "|~",
        };
        for (String text : texts) {
            firstErrorIs(text.replace("|", ""), text.indexOf('|'));
        }
    }

    private static void promise28LongText() {
        String tenCalls = "call0;".repeat(10);
        firstErrorIs(tenCalls, 60);
        firstErrorIs("month;".repeat(9) + "month?", 59);
        // The order could only be ended beyond the 60 characters of the buffer: no error.
        firstErrorIs("month;".repeat(9) + "call1;", 60);
        firstErrorIs("add10@0;".repeat(7) + "nigh", 60);
    }

    private static void promise29EachOrder() {
        VaultShelves x = new VaultShelves();
        Check.write(x, "add12@4;add30@5;call0;call0;lose1@2;call1");
        CHECK.equal("29: six orders", x.run(), 6);
        CHECK.equal("29: empties the buffer", x.clearText(), 0);
        CHECK.equal("29: two records", x.records(), 2);
        CHECK.equal("29: width", x.width(1), 30);
        CHECK.equal("29: lost", x.shelfOf(1), 2);
        CHECK.equal("29: found", x.catalog(1), 2);
        CHECK.equal("29: walks", x.walked(), 50 + 50 + 60 + 10 + 20 + 30);
        CHECK.equal("29: one state is saved", x.savedStates(), 1);
        Check.write(x, "month;night1");
        CHECK.equal("29: month and night", x.run(), 2);
        CHECK.equal("29: weight of the last month", x.weight(0), 2);
        CHECK.equal("29: one step", x.steps(), 1);
        CHECK.equal("29: the best step", x.shelfOf(0), 0);
        Check.write(x, "night20");
        CHECK.equal("29: an order without a step is executed", x.run(), 1);
        Check.write(x, "add1@0;".repeat(8) + "add1");
        CHECK.equal("29: not complete", Check.outcome(x::run), "throws IllegalArgumentException");
    }

    private static void promise29Stops() {
        VaultShelves x = new VaultShelves();
        Check.write(x, "call0;add1@0");
        CHECK.equal("29: the first one is not executed", x.run(), 0);
        CHECK.equal("29: nor those behind it", x.records(), 0);
        CHECK.equal("29: the buffer is empty", x.clearText(), 0);
        CHECK.equal("29: saved even so", x.savedStates(), 1);
        Check.write(x, "add30@3;add1@3;add1@4");
        CHECK.equal("29: up to the second", x.run(), 1);
        CHECK.equal("29: what was executed stays", x.records(), 1);
        CHECK.equal("29: saved once", x.savedStates(), 2);
    }

    private static void stopsAt(VaultShelves x, String text, int due) {
        Check.write(x, text);
        CHECK.equal("29: " + text, x.run(), due);
        x.undo();
    }

    private static void promise29StopsOfEachOrder() {
        VaultShelves x = new VaultShelves();
        for (int i = 0; i < 15; i++) {
            x.addRecord(2 + i % 3, i % 5);
        }
        stopsAt(x, "add25@5;add1@4;month", 1);
        stopsAt(x, "add30@5;call15;month", 3);
        stopsAt(x, "call14;call15;month", 1);
        stopsAt(x, "lose0@5;lose15@0;month", 1);
        stopsAt(x, "lose14@4;month", 2);
        x.setShelf(5, 10, 60);
        stopsAt(x, "add9@5;lose0@5;month", 1);
        stopsAt(x, "lose0@5;add8@5;month", 3);
        stopsAt(x, "lose0@5;add9@5;month", 1);
        stopsAt(x, "add10@5;lose15@5;month", 3);
    }

    private static void promise29Refusals() {
        String[] texts = {"", "a", "add1", "add1@", "call", "call16", "lose1", "lose1@", "mont", "month;", "night",
            "night21", ";month", "month;;month", "call0;x"};
        for (String text : texts) {
            VaultShelves x = new VaultShelves();
            x.addRecord(10, 3);
            Check.write(x, text);
            CHECK.refused("29: " + text, x, WRONG, x::run);
            CHECK.equal("29: the buffer stays: " + text, x.clearText(), text.length());
        }
    }

    private static void promise29Undo() {
        VaultShelves x = new VaultShelves();
        x.addRecord(10, 3);
        String before = Check.outside(x);
        Check.write(x, "add5@0;call0;lose0@4;month;night20;call1");
        CHECK.equal("29: all", x.run(), 6);
        CHECK.equal("29: undone as one call", x.undo(), 1);
        CHECK.equal("29: all is as before", Check.outside(x), before);
        CHECK.equal("29: but for the buffer", x.clearText(), 0);
    }
}
