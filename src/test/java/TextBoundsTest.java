/** Each sentence about a bound under "Order text" and the promises 26 to 29. */
final class TextBoundsTest {
    private static final Class<?> WRONG = IllegalArgumentException.class;
    private static final Class<?> NOT_NOW = IllegalStateException.class;
    private static final String DIGITS = "0123456789";
    private static final Check CHECK = new Check("TextBoundsTest");

    public static void main(String[] args) {
        bufferFrom0To60();
        oneOrMoreOrders();
        wordsBeginOrders();
        addTakesItsWidths();
        callTakesItsRecords();
        loseTakesItsRecords();
        monthTakesNothing();
        nightTakesItsSteps();
        noLeadingZeros();
        everyNumberUpTo999();
        shelfIsADigitFrom0To5();
        errorIfNoOrderTextBeginsSo();
        howeverLong();
        promise26RefusesACodeOutOfRange();
        promise26RefusesThe61stCharacter();
        promise26ReturnsTheNewLength();
        promise27ReturnsTheLengthThatItHad();
        promise28ReturnsTheFirstError();
        promise28ReturnsTheLengthIfThereIsNone();
        promise29ExecutesUpToTheFirstThatWouldThrow();
        promise29ExecutesTheOrdersInTheBufferAlone();
        promise29EmptiesTheBuffer();
        promise29IsUndoneAsOneCall();
        promise29ReturnsTheOrdersThatAreExecuted();
        promise29RefusesAnIncompleteText();
        CHECK.end();
    }

    private static VaultShelves with(String text) {
        VaultShelves x = new VaultShelves();
        Check.write(x, text);
        return x;
    }

    /** Behind this beginning exactly these characters are no errors; a space stands for the text's being complete. */
    private static void next(String beginning, String right) {
        for (char sign = 33; sign <= 126; sign++) {
            int due = beginning.length() + (right.indexOf(sign) < 0 ? 0 : 1);
            CHECK.equal("first error of " + beginning + sign, with(beginning + sign).firstError(), due);
        }
        boolean complete = right.indexOf(' ') >= 0;
        CHECK.equal("first error of " + beginning, with(beginning).firstError(), beginning.length());
        CHECK.equal("run of " + beginning, Check.outcome(() -> with(beginning).run() < 0 ? 1 : 0),
                complete ? "0" : "throws IllegalArgumentException");
    }

    private static void bufferFrom0To60() {
        CHECK.sentence("The buffer contains at most 60 characters and is empty at first.");
        VaultShelves x = new VaultShelves();
        CHECK.equal("empty at first", x.clearText(), 0);
        for (int length = 1; length <= 60; length++) {
            x.append('m');
        }
        CHECK.refused("the 61st character", x, NOT_NOW, () -> x.append('m'));
        CHECK.equal("60 at the most", x.clearText(), 60);
    }

    private static void oneOrMoreOrders() {
        CHECK.sentence("An order text is one or more orders with \";\" between them.");
        next("", "aclmn");
        next("month", "; ");
        next("month;", "aclmn");
        next("month;month", "; ");
        next("month;month;month;month;month;month;month;month;month;month", "; ");
        String[] wrong = {"", ";", "month;", ";month", "month;;month", "monthmonth", "month,month", "month;month;"};
        for (String text : wrong) {
            CHECK.equal("run of " + text, Check.outcome(with(text)::run), "throws IllegalArgumentException");
        }
        CHECK.equal("one", with("month").run(), 1);
        CHECK.equal("two", with("month;month").run(), 2);
    }

    private static void wordsBeginOrders() {
        CHECK.sentence("An order begins with a word:");
        next("a", "d");
        next("ad", "d");
        next("c", "a");
        next("ca", "l");
        next("cal", "l");
        next("l", "o");
        next("lo", "s");
        next("los", "e");
        next("m", "o");
        next("mo", "n");
        next("mon", "t");
        next("mont", "h");
        next("n", "i");
        next("ni", "g");
        next("nig", "h");
        next("nigh", "t");
    }

    private static void addTakesItsWidths() {
        CHECK.sentence("\"add\", a width, \"@\", and a shelf: like addRecord();");
        next("add", "123456789");
        next("add1", DIGITS + "@");
        next("add2", DIGITS + "@");
        next("add3", "0@");
        for (int width = 4; width <= 30; width++) {
            next("add" + width, "@");
        }
        next("add1@", "012345");
        next("add30@", "012345");
        next("add1@0", "; ");
        next("add30@5", "; ");
        VaultShelves x = with("add30@0;add1@5");
        CHECK.equal("both ends", x.run(), 2);
        CHECK.equal("the greatest width", x.width(0), 30);
        CHECK.equal("the least shelf", x.shelfOf(0), 0);
        CHECK.equal("the least width", x.width(1), 1);
        CHECK.equal("the greatest shelf", x.shelfOf(1), 5);
        CHECK.equal("it should be there", x.catalog(1), 5);
    }

    private static void callTakesItsRecords() {
        CHECK.sentence("\"call\" and a record: like call();");
        next("call", DIGITS);
        next("call0", "; ");
        next("call1", "012345; ");
        for (int record = 2; record <= 15; record++) {
            next("call" + record, "; ");
        }
        VaultShelves x = Vaults.full();
        Check.write(x, "call0;call15;call10;call9");
        CHECK.equal("both ends", x.run(), 4);
        for (int record = 0; record < 16; record++) {
            boolean called = record == 0 || record == 9 || record == 10 || record == 15;
            CHECK.equal("weight of " + record, x.weight(record), called ? 2 : 0);
        }
    }

    private static void loseTakesItsRecords() {
        CHECK.sentence("\"lose\", a record, \"@\", and a shelf: like misplace();");
        next("lose", DIGITS);
        next("lose0", "@");
        next("lose1", "012345@");
        for (int record = 2; record <= 15; record++) {
            next("lose" + record, "@");
        }
        next("lose0@", "012345");
        next("lose15@", "012345");
        next("lose0@0", "; ");
        next("lose15@5", "; ");
        VaultShelves x = Vaults.full();
        Check.write(x, "lose0@5;lose15@0;lose1@1");
        CHECK.equal("both ends", x.run(), 3);
        CHECK.equal("the first record", x.shelfOf(0), 5);
        CHECK.equal("should be where it was", x.catalog(0), 0);
        CHECK.equal("the last record", x.shelfOf(15), 0);
        CHECK.equal("should be where it was, too", x.catalog(15), 3);
        CHECK.equal("the one that stays is not misplaced", x.misplaced(), 2);
    }

    private static void monthTakesNothing() {
        CHECK.sentence("\"month\": like month();");
        next("call0;month", "; ");
        VaultShelves x = Vaults.full();
        x.call(7);
        Check.write(x, "month");
        CHECK.equal("one", x.run(), 1);
        CHECK.equal("the last month", x.weight(7), 1);
        Check.write(x, "month;month");
        CHECK.equal("two", x.run(), 2);
        CHECK.equal("the month before", x.weight(7), 0);
    }

    private static void nightTakesItsSteps() {
        CHECK.sentence("\"night\" and a number of steps from 1 to 20: like night().");
        next("night", "123456789");
        next("night1", DIGITS + "; ");
        next("night2", "0; ");
        for (int steps = 3; steps <= 20; steps++) {
            next("night" + steps, "; ");
        }
        VaultShelves x = Vaults.longNights();
        Check.write(x, "night1");
        x.run();
        CHECK.equal("the least", x.steps(), 1);
        Check.write(x, "night19");
        x.run();
        CHECK.equal("one less than the greatest", x.steps(), 20);
        VaultShelves y = Vaults.longNights();
        Check.write(y, "night20;night1");
        CHECK.equal("the greatest, and the least", y.run(), 2);
        CHECK.equal("all these are made", y.steps(), 21);
    }

    private static void noLeadingZeros() {
        CHECK.sentence("Widths, records (0 to 15) and steps are numbers in their ranges without leading zeros");
        String[] texts = {"add|0", "add|01@0", "add|00", "call0|0", "call0|1", "call0|5;", "lose0|0@1", "lose0|1@1",
            "night|0", "night|01", "night|00"};
        for (String text : texts) {
            String plain = text.replace("|", "");
            CHECK.equal("first error of " + plain, with(plain).firstError(), text.indexOf('|'));
            CHECK.equal("run of " + plain, Check.outcome(with(plain)::run), "throws IllegalArgumentException");
        }
        CHECK.equal("a 0 alone is a record", with("call0").firstError(), 5);
        CHECK.equal("a 0 at the end is a part of a number", with("add10@0;add20@0;add30@0;call10;night20").firstError(),
                38);
    }

    private static void everyNumberUpTo999() {
        CHECK.sentence("numbers in their ranges");
        for (int number = 0; number <= 999; number++) {
            takes("add" + number + "@3", number >= 1 && number <= 30);
            takes("call" + number, number <= 15);
            takes("lose" + number + "@3", number <= 15);
            takes("night" + number, number >= 1 && number <= 20);
        }
    }

    private static void takes(String text, boolean due) {
        VaultShelves x = with(text);
        CHECK.equal("no error in " + text, x.firstError() == text.length() ? 1 : 0, due ? 1 : 0);
        CHECK.equal("run of " + text, Check.outcome(() -> x.run() < 0 ? 1 : 0),
                due ? "0" : "throws IllegalArgumentException");
    }

    private static void shelfIsADigitFrom0To5() {
        CHECK.sentence("a shelf is a digit from 0 to 5.");
        for (String order : new String[] {"add1@", "add29@", "lose0@", "lose14@"}) {
            next(order, "012345");
            for (int shelf = 0; shelf <= 5; shelf++) {
                next(order + shelf, "; ");
            }
        }
        for (int shelf = 0; shelf <= 5; shelf++) {
            VaultShelves x = with("add7@" + shelf + ";add1@3;lose1@" + shelf);
            CHECK.equal("executed", x.run(), 3);
            CHECK.equal("added to " + shelf, x.shelfOf(0), shelf);
            CHECK.equal("lost on " + shelf, x.shelfOf(1), shelf);
        }
    }

    private static void errorIfNoOrderTextBeginsSo() {
        CHECK.sentence("A character of the buffer is an error if no order text, however long, begins with the "
                + "characters before it and this character.");
        // What is right by itself is an error behind an error: the first one tells.
        String[] texts = {"|xmonth", "mo|onth", "month|h;month", "call1|6;call1", "add3|1@0;month", "add5@|6;month",
            "month;|;month", "|MONTH", "|Call0", "call0;|Month", "add|+5@0",
            "add|-5@0", "call|-1", "night2|1;month", "lose3@4|4", "lose3|;month", "add9@0|,add9@0", "month;|0"};
        for (String text : texts) {
            String plain = text.replace("|", "");
            CHECK.equal("first error of " + plain, with(plain).firstError(), text.indexOf('|'));
        }
    }

    private static void howeverLong() {
        CHECK.sentence("no order text, however long, begins with");
        String nine = "month;month;month;month;month;month;month;month;month;";
        for (String end : new String[] {"call0;", "add10@", "lose15", "lose0@", "night", "month;"}) {
            String text = nine + end;
            VaultShelves x = with(text);
            CHECK.equal("it could be ended beyond 60 characters alone: " + text, x.firstError(), text.length());
            CHECK.equal("but it is not complete: " + text, Check.outcome(x::run), "throws IllegalArgumentException");
        }
        CHECK.equal("an error at the last place", with(nine + "add10;").firstError(), 59);
        CHECK.equal("an error at the last place but one", with(nine + "call;0").firstError(), 58);
        VaultShelves full = with(nine + "night1");
        CHECK.equal("no error in 60 characters", full.firstError(), 60);
        CHECK.equal("which are complete", full.run(), 10);
    }

    private static void promise26RefusesACodeOutOfRange() {
        CHECK.sentence("26: Throws `IllegalArgumentException` if code is out of range");
        VaultShelves x = new VaultShelves();
        for (int code : new int[] {32, 127, 31, 128, 0, -1, -33, 10, 255, 256 + 65, 65536 + 65, Integer.MIN_VALUE,
            Integer.MAX_VALUE}) {
            CHECK.refused("code " + code, x, WRONG, () -> x.append(code));
            CHECK.equal("the buffer stays empty", x.clearText(), 0);
        }
        for (int code = 33; code <= 126; code++) {
            VaultShelves y = new VaultShelves();
            CHECK.equal("code " + code, y.append(code), 1);
        }
    }

    private static void promise26RefusesThe61stCharacter() {
        CHECK.sentence("26: Throws `IllegalStateException` if the buffer contains 60 characters");
        String ten = "month;month;month;month;month;month;month;month;month;month";
        VaultShelves x = with(ten);
        CHECK.equal("the 60th", x.append(';'), 60);
        for (int code : new int[] {33, 65, 126}) {
            CHECK.refused("the 61st", x, NOT_NOW, () -> x.append(code));
        }
        CHECK.equal("still 60", x.clearText(), 60);
        Check.write(x, ten.substring(0, 53) + ";night1");
        CHECK.refused("the 61st, a digit that would be right", x, NOT_NOW, () -> x.append('1'));
        CHECK.equal("the text is the same", x.run(), 10);
        CHECK.equal("the buffer is empty again", x.append('m'), 1);
    }

    private static void promise26ReturnsTheNewLength() {
        CHECK.sentence("26: Returns the new length of the buffer.");
        VaultShelves x = new VaultShelves();
        for (int length = 1; length <= 60; length++) {
            CHECK.equal("appended", x.append(33 + length), length);
        }
        x.clearText();
        CHECK.equal("after clearText()", x.append('c'), 1);
        Check.write(x, "month");
        x.run();
        CHECK.equal("after run()", x.append('c'), 1);
        CHECK.equal("no state is saved for it", x.savedStates(), 1);
    }

    private static void promise27ReturnsTheLengthThatItHad() {
        CHECK.sentence("27: Returns the length that it had.");
        for (int length = 0; length <= 60; length++) {
            VaultShelves x = with("month;month;month;month;month;month;month;month;month;month;".substring(0, length));
            CHECK.equal("that it had", x.clearText(), length);
            CHECK.equal("now it is empty", x.clearText(), 0);
            CHECK.equal("and has no error", x.firstError(), 0);
            CHECK.equal("no state is saved", x.savedStates(), 0);
        }
        VaultShelves x = with("zzz");
        x.clearText();
        Check.write(x, "mo");
        CHECK.equal("nothing is left of it", x.firstError(), 2);
    }

    private static void promise28ReturnsTheFirstError() {
        CHECK.sentence("Returns the index of the first character that is an error");
        CHECK.equal("at the beginning", with("z").firstError(), 0);
        CHECK.equal("at the end", with("monthz").firstError(), 5);
        CHECK.equal("the first one of several", with("mzzz").firstError(), 1);
        String full = "add30@5;lose15@4;call15;night20;month;add10@1;call1;night1;m";
        CHECK.equal("none in 60", with(full).firstError(), 60);
        for (int index = 0; index < 60; index++) {
            String text = full.substring(0, index) + "~" + full.substring(index + 1);
            CHECK.equal("first error of " + text, with(text).firstError(), index);
        }
    }

    private static void promise28ReturnsTheLengthIfThereIsNone() {
        CHECK.sentence("the length of the buffer if there is none (also if the buffer is not a complete order text).");
        String full = "add30@5;lose15@4;call15;night20;month;add10@1;call1;night1;m";
        for (int length = 0; length <= 60; length++) {
            VaultShelves x = with(full.substring(0, length));
            CHECK.equal("of " + length, x.firstError(), length);
            CHECK.equal("asked again", x.firstError(), length);
            CHECK.equal("the buffer stays", x.clearText(), length);
        }
    }

    private static void stopsAt(String what, VaultShelves x, String text, int due) {
        Check.write(x, text);
        CHECK.equal(what + ": " + text, x.run(), due);
    }

    private static void promise29ExecutesUpToTheFirstThatWouldThrow() {
        CHECK.sentence("Executes the orders in the buffer, one after the other, up to the first one whose method would "
                + "throw an exception");
        stopsAt("no record at all", new VaultShelves(), "call0;month", 0);
        stopsAt("no record at all", new VaultShelves(), "lose0@0;month", 0);
        stopsAt("no record 1", new VaultShelves(), "add1@0;call0;call1;call0", 2);
        stopsAt("no record 1", new VaultShelves(), "add1@0;lose0@1;lose1@1;call0", 2);
        stopsAt("30 of 30", new VaultShelves(), "add30@0;month;add1@0;month", 2);
        stopsAt("29 and 1 of 30", new VaultShelves(), "add29@0;add1@0;month", 3);
        stopsAt("29 and 2 of 30", new VaultShelves(), "add29@0;add2@0;month", 1);
        stopsAt("lost, 15 for 15", new VaultShelves(), "add15@0;add15@1;lose1@0;month", 4);
        stopsAt("lost, 14 for 15", new VaultShelves(), "add16@0;add15@1;lose1@0;month", 2);
        stopsAt("lost where it is, on a full shelf", new VaultShelves(), "add30@0;lose0@0;month", 3);
        stopsAt("the seventeenth", Vaults.full(), "month;add1@5;month", 1);
        stopsAt("the last record", Vaults.full(), "call15;lose15@4;month", 3);
        VaultShelves fifteen = Vaults.full();
        fifteen.removeRecord(0);
        stopsAt("the sixteenth", fifteen, "add1@5;call15;add1@5;month", 2);
        fifteen.removeRecord(0);
        stopsAt("no record 15", fifteen, "call14;call15;month", 1);
        VaultShelves x = new VaultShelves();
        stopsAt("months and nights never throw", x, "month;night20;month;night1;month", 5);
        stopsAt("what is behind it is not executed", x, "add1@0;call7;add1@0;add1@0", 1);
        CHECK.equal("one record", x.records(), 1);
    }

    private static void promise29ExecutesTheOrdersInTheBufferAlone() {
        CHECK.sentence("Executes the orders in the buffer");
        VaultShelves x = new VaultShelves();
        stopsAt("five orders", x, "add1@0;add1@1;add1@2;add1@3;add1@4", 5);
        stopsAt("none of the text before", x, "add1@5", 1);
        CHECK.equal("six records", x.records(), 6);
        Check.write(x, "call0;call1;call2");
        x.firstError();
        stopsAt("none of a text that was looked at", x, "call3", 1);
        Check.write(x, "call0;call1;call2;call");
        Check.outcome(x::run);
        stopsAt("none of a text that was refused", x, "call4;call5", 2);
        CHECK.equal("three calls", x.month(), 3);
        stopsAt("nor what stood behind the order that was the end", x, "month;call9;call0;call0", 1);
        stopsAt("in a shorter text", x, "month", 1);
        CHECK.equal("no call", x.month(), 0);
    }

    private static void promise29EmptiesTheBuffer() {
        CHECK.sentence("and empties the buffer.");
        for (String text : new String[] {"month", "call0", "add1@0;call1;month"}) {
            VaultShelves x = with(text);
            x.run();
            CHECK.equal("after " + text, x.clearText(), 0);
        }
        VaultShelves x = with("month");
        x.run();
        CHECK.refused("an empty text is not complete", x, WRONG, x::run);
    }

    private static void promise29IsUndoneAsOneCall() {
        CHECK.sentence("Undoable, as one call, also if no order is executed.");
        VaultShelves x = new VaultShelves();
        for (int record = 0; record < 5; record++) {
            x.addRecord(1, record);
        }
        String before = Check.outside(x);
        Check.write(x, "call0;call1;month;lose3@0;night3;add3@3;call3;call4;month");
        CHECK.equal("nine orders", x.run(), 9);
        CHECK.equal("are one saved state, the sixth", x.savedStates(), 6);
        CHECK.equal("five are left", x.undo(), 5);
        CHECK.equal("the state from before", Check.outside(x), before);
        CHECK.equal("also of the months", x.month(), 0);
        Check.write(x, "call15");
        CHECK.equal("no order is executed", x.run(), 0);
        CHECK.equal("saved even so, and the oldest one discarded", x.savedStates(), 6);
        for (int left = 5; left >= 0; left--) {
            CHECK.equal("left", x.undo(), left);
        }
        CHECK.equal("the second one is the oldest", x.records(), 1);
    }

    private static void promise29ReturnsTheOrdersThatAreExecuted() {
        CHECK.sentence("29: Returns the number of orders that are executed.");
        CHECK.equal("none", with("call0").run(), 0);
        CHECK.equal("one", with("month").run(), 1);
        CHECK.equal("as many as 60 characters hold", with("month;month;month;month;month;month;month;month;month;month")
                .run(), 10);
        VaultShelves x = new VaultShelves();
        x.addRecord(1, 2);
        Check.write(x, "call0;call0;call0;call0;call0;call0;call0;call0;call0;call0");
        CHECK.equal("ten calls", x.run(), 10);
        CHECK.equal("are ten walks", x.walked(), 300);
        Check.write(x, "call0;call0;call0;call0;call0;call0;call0;call0;call0;call1");
        CHECK.equal("nine calls", x.run(), 9);
        CHECK.equal("are nine walks more", x.walked(), 570);
    }

    private static void promise29RefusesAnIncompleteText() {
        CHECK.sentence("Throws `IllegalArgumentException` if the buffer is not a complete order text (the buffer stays)");
        String[] texts = {"", "m", "add", "add1", "add30", "add1@", "call", "lose", "lose0", "lose15@", "nigh", "night",
            "month;", "call0;", "month;mont", "call0;lose1@", "x", "month!", "call16", "night0", "add0@0", "add31@0"};
        for (String text : texts) {
            Check.Maker maker = () -> {
                VaultShelves x = Vaults.busy();
                Check.write(x, text);
                return x;
            };
            CHECK.refusedWholly("run of " + text, maker, WRONG, VaultShelves::run);
            VaultShelves x = maker.make();
            Check.outcome(x::run);
            CHECK.equal("the buffer stays: " + text, x.clearText(), text.length());
        }
        VaultShelves x = with("add5@0;add5@1;call");
        Check.outcome(x::run);
        CHECK.equal("no order of it is executed", x.records(), 0);
        x.append('1');
        CHECK.equal("it can be completed", x.run(), 3);
        CHECK.equal("then all are", x.walked(), 20);
    }
}
