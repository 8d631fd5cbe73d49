/** The sentences under "Exceptions": what a refused call leaves as it was, and which exception comes first. */
final class RefusalsTest {
    private static final Class<?> NO_SUCH = IndexOutOfBoundsException.class;
    private static final Class<?> WRONG = IllegalArgumentException.class;
    private static final Class<?> NOT_NOW = IllegalStateException.class;
    private static final Check CHECK = new Check("RefusalsTest");

    public static void main(String[] args) {
        refusedOnANewObject();
        refusedOnABusyObject();
        refusedOnAFullVault();
        refusedWithAFullBuffer();
        refusedWithFewSavedStates();
        firstOfThreeInSetShelf();
        firstOfThreeInAddRecord();
        firstOfTwoInMisplace();
        firstOfTwoInAppend();
        noSuchShelf();
        CHECK.end();
    }

    private static void refusedOnANewObject() {
        CHECK.sentence("A call that throws an exception changes nothing.");
        refused("new", VaultShelves::new, 0);
        CHECK.refusedWholly("new: undo", VaultShelves::new, NOT_NOW, VaultShelves::undo);
        CHECK.refusedWholly("new: run", VaultShelves::new, WRONG, VaultShelves::run);
    }

    /** Each call that is refused whatever the state is, on an object with so many records. */
    private static void refused(String name, Check.Maker maker, int records) {
        for (int shelf : new int[] {-1, 6}) {
            CHECK.refusedWholly(name + ": setShelf", maker, NO_SUCH, x -> x.setShelf(shelf, 30, 10));
            CHECK.refusedWholly(name + ": addRecord", maker, NO_SUCH, x -> x.addRecord(1, shelf));
            CHECK.refusedWholly(name + ": free", maker, NO_SUCH, x -> x.free(shelf));
            CHECK.refusedWholly(name + ": reach", maker, NO_SUCH, x -> x.reach(shelf));
            CHECK.refusedWholly(name + ": misplace", maker, NO_SUCH, x -> x.misplace(0, shelf));
            CHECK.refusedWholly(name + ": reason", maker, NO_SUCH, x -> x.reason(0, shelf));
        }
        for (int record : new int[] {-1, records}) {
            CHECK.refusedWholly(name + ": removeRecord", maker, NO_SUCH, x -> x.removeRecord(record));
            CHECK.refusedWholly(name + ": width", maker, NO_SUCH, x -> x.width(record));
            CHECK.refusedWholly(name + ": shelfOf", maker, NO_SUCH, x -> x.shelfOf(record));
            CHECK.refusedWholly(name + ": catalog", maker, NO_SUCH, x -> x.catalog(record));
            CHECK.refusedWholly(name + ": weight", maker, NO_SUCH, x -> x.weight(record));
            CHECK.refusedWholly(name + ": call", maker, NO_SUCH, x -> x.call(record));
            CHECK.refusedWholly(name + ": misplace of", maker, NO_SUCH, x -> x.misplace(record, 3));
            CHECK.refusedWholly(name + ": reason of", maker, NO_SUCH, x -> x.reason(record, 3));
            CHECK.refusedWholly(name + ": walkTo", maker, NO_SUCH, x -> x.walkTo(record));
        }
        for (int number : new int[] {0, 127}) {
            CHECK.refusedWholly(name + ": room", maker, WRONG, x -> x.setShelf(0, number, 10));
            CHECK.refusedWholly(name + ": its reach", maker, WRONG, x -> x.setShelf(0, 99, number));
            CHECK.refusedWholly(name + ": its width", maker, WRONG, x -> x.addRecord(number, 3));
            CHECK.refusedWholly(name + ": night", maker, WRONG, x -> x.night(number));
            CHECK.refusedWholly(name + ": costAfterNight", maker, WRONG, x -> x.costAfterNight(number));
            CHECK.refusedWholly(name + ": shelfFor", maker, WRONG, x -> x.shelfFor(number));
            CHECK.refusedWholly(name + ": append", maker, WRONG, x -> x.append(number));
        }
    }

    private static void refusedOnABusyObject() {
        CHECK.sentence("A call that throws an exception changes nothing. (six saved states, a text, both months)");
        Check.Maker maker = Vaults::busy;
        CHECK.equal("its saved states", maker.make().savedStates(), 6);
        CHECK.equal("its misplaced records", maker.make().misplaced(), 1);
        CHECK.equal("its orders", maker.make().run(), 3);
        refused("busy", maker, 4);
        CHECK.refusedWholly("busy: setShelf, 29 for 30", maker, NOT_NOW, x -> x.setShelf(x.shelfOf(2), 29, 1));
        CHECK.refusedWholly("busy: addRecord", maker, NOT_NOW, x -> x.addRecord(30, x.shelfOf(1)));
        CHECK.refusedWholly("busy: misplace", maker, NOT_NOW, x -> x.misplace(2, 1));
        Check.Maker incomplete = () -> {
            VaultShelves x = Vaults.busy();
            x.append(';');
            return x;
        };
        CHECK.refusedWholly("busy: run", incomplete, WRONG, VaultShelves::run);
    }

    private static void refusedOnAFullVault() {
        CHECK.sentence("A call that throws an exception changes nothing. (16 records)");
        refused("full", Vaults::full, 16);
        CHECK.refusedWholly("full: addRecord", Vaults::full, NOT_NOW, x -> x.addRecord(1, 5));
        CHECK.refusedWholly("full: run", Vaults::full, WRONG, VaultShelves::run);
    }

    private static void refusedWithAFullBuffer() {
        CHECK.sentence("A call that throws an exception changes nothing. (60 characters)");
        Check.Maker right = () -> text("month;month;month;month;month;month;month;month;month;night1");
        CHECK.refusedWholly("append to a complete text", right, NOT_NOW, x -> x.append(';'));
        CHECK.refusedWholly("append of no character", right, WRONG, x -> x.append(127));
        Check.Maker wrong = () -> text("month;month;month;month;month;month;month;month;month;month;");
        CHECK.refusedWholly("append to an incomplete text", wrong, NOT_NOW, x -> x.append('c'));
        CHECK.refusedWholly("run of an incomplete text", wrong, WRONG, VaultShelves::run);
    }

    private static VaultShelves text(String text) {
        VaultShelves x = Vaults.busy();
        Check.write(x, text);
        return x;
    }

    private static void refusedWithFewSavedStates() {
        CHECK.sentence("A call that throws an exception changes nothing. (no state, some, and as many as there may be)");
        for (int saved = 0; saved <= 6; saved++) {
            int states = saved;
            Check.Maker maker = () -> {
                VaultShelves x = new VaultShelves();
                x.addRecord(20, 0);
                x.undo();
                for (int i = 0; i < states; i++) {
                    x.addRecord(30 - i, i);
                }
                return x;
            };
            CHECK.refusedWholly("setShelf", maker, WRONG, x -> x.setShelf(0, 99, 0));
            CHECK.refusedWholly("addRecord", maker, WRONG, x -> x.addRecord(31, 5));
            CHECK.refusedWholly("removeRecord", maker, NO_SUCH, x -> x.removeRecord(states));
            CHECK.refusedWholly("call", maker, NO_SUCH, x -> x.call(states));
            CHECK.refusedWholly("misplace", maker, NO_SUCH, x -> x.misplace(0, 6));
            CHECK.refusedWholly("night", maker, WRONG, x -> x.night(21));
            CHECK.refusedWholly("run", maker, WRONG, VaultShelves::run);
        }
    }

    private static void firstOfThreeInSetShelf() {
        CHECK.sentence("If more than one exception applies to a call, the one that is listed first in its throws clause "
                + "is thrown.");
        VaultShelves x = new VaultShelves();
        x.addRecord(30, 0);
        for (int shelf : new int[] {-1, 6}) {
            CHECK.refused("no shelf, wrong room", x, NO_SUCH, () -> x.setShelf(shelf, 9, 10));
            CHECK.refused("no shelf, wrong room above", x, NO_SUCH, () -> x.setShelf(shelf, 100, 10));
            CHECK.refused("no shelf, wrong reach", x, NO_SUCH, () -> x.setShelf(shelf, 29, 0));
            CHECK.refused("no shelf, wrong reach above", x, NO_SUCH, () -> x.setShelf(shelf, 29, 100));
            CHECK.refused("no shelf, both wrong", x, NO_SUCH, () -> x.setShelf(shelf, 0, 0));
        }
        CHECK.refused("wrong room, and too small", x, WRONG, () -> x.setShelf(0, 9, 10));
        CHECK.refused("wrong reach, too small a room", x, WRONG, () -> x.setShelf(0, 29, 0));
        CHECK.refused("wrong reach above, too small a room", x, WRONG, () -> x.setShelf(0, 29, 100));
        CHECK.refused("too small a room alone", x, NOT_NOW, () -> x.setShelf(0, 29, 99));
    }

    private static void firstOfThreeInAddRecord() {
        CHECK.sentence("the one that is listed first in its throws clause is thrown.");
        VaultShelves x = new VaultShelves();
        x.setShelf(5, 10, 60);
        for (int shelf : new int[] {-1, 6}) {
            CHECK.refused("no shelf, width 0", x, NO_SUCH, () -> x.addRecord(0, shelf));
            CHECK.refused("no shelf, width 31", x, NO_SUCH, () -> x.addRecord(31, shelf));
        }
        CHECK.refused("width 31, too little room", x, WRONG, () -> x.addRecord(31, 5));
        CHECK.refused("width 30, too little room", x, NOT_NOW, () -> x.addRecord(30, 5));
        VaultShelves full = Vaults.full();
        for (int shelf : new int[] {-1, 6}) {
            CHECK.refused("16 records, no shelf", full, NO_SUCH, () -> full.addRecord(1, shelf));
            CHECK.refused("16 records, no shelf, width 31", full, NO_SUCH, () -> full.addRecord(31, shelf));
        }
        CHECK.refused("16 records, width 0", full, WRONG, () -> full.addRecord(0, 5));
        CHECK.refused("16 records, width 31", full, WRONG, () -> full.addRecord(31, 5));
        CHECK.refused("16 records, too little room", full, NOT_NOW, () -> full.addRecord(30, 0));
    }

    private static void firstOfTwoInMisplace() {
        CHECK.sentence("the one that is listed first in its throws clause is thrown. (misplace)");
        VaultShelves x = new VaultShelves();
        x.addRecord(30, 0);
        x.addRecord(30, 1);
        CHECK.refused("no shelf, and no room for it anywhere", x, NO_SUCH, () -> x.misplace(0, 6));
        CHECK.refused("no record, and a full shelf", x, NO_SUCH, () -> x.misplace(2, 0));
        CHECK.refused("no record, and a full shelf below", x, NO_SUCH, () -> x.misplace(-1, 0));
        CHECK.refused("neither", x, NO_SUCH, () -> x.misplace(2, -1));
        CHECK.refused("a full shelf alone", x, NOT_NOW, () -> x.misplace(0, 1));
    }

    private static void firstOfTwoInAppend() {
        CHECK.sentence("the one that is listed first in its throws clause is thrown. (append)");
        VaultShelves x = new VaultShelves();
        Check.write(x, "month;month;month;month;month;month;month;month;month;month;");
        for (int code : new int[] {32, 127, 0, -1, Integer.MIN_VALUE, Integer.MAX_VALUE}) {
            CHECK.refused("a wrong code, and 60 characters: " + code, x, WRONG, () -> x.append(code));
        }
        CHECK.refused("60 characters alone, least", x, NOT_NOW, () -> x.append(33));
        CHECK.refused("60 characters alone, greatest", x, NOT_NOW, () -> x.append(126));
    }

    private static void noSuchShelf() {
        CHECK.sentence("\"There is no such shelf\" means that the number is not 0 to 5.");
        VaultShelves x = new VaultShelves();
        x.addRecord(1, 3);
        for (int shelf = -3; shelf <= 8; shelf++) {
            int number = shelf;
            String due = shelf >= 0 && shelf <= 5 ? "taken" : "throws IndexOutOfBoundsException";
            CHECK.equal("setShelf " + shelf, taken(() -> x.setShelf(number, 30, 10)), due);
            CHECK.equal("addRecord " + shelf, taken(() -> x.addRecord(1, number)), due);
            CHECK.equal("free " + shelf, taken(() -> x.free(number)), due);
            CHECK.equal("reach " + shelf, taken(() -> x.reach(number)), due);
            CHECK.equal("misplace " + shelf, taken(() -> x.misplace(0, number)), due);
            CHECK.equal("reason " + shelf, taken(() -> x.reason(0, number)), due);
        }
    }

    private static String taken(Check.Call call) {
        String outcome = Check.outcome(call);
        return outcome.startsWith("throws") ? outcome : "taken";
    }
}
