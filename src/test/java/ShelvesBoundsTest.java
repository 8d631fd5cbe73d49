/** Each sentence about a bound under "Shelves, records" and the promises 1 to 11. */
final class ShelvesBoundsTest {
    private static final Class<?> NO_SUCH = IndexOutOfBoundsException.class;
    private static final Class<?> WRONG = IllegalArgumentException.class;
    private static final Class<?> NOT_NOW = IllegalStateException.class;
    private static final int[] NO_SHELVES = {-1, 6, 7, -6, 99, Integer.MIN_VALUE, Integer.MAX_VALUE};
    private static final Check CHECK = new Check("ShelvesBoundsTest");

    public static void main(String[] args) {
        sixShelves();
        roomFrom10To99();
        reachFrom1To99();
        atMost16Records();
        numberedInTheOrderOfAdding();
        numbersBehindARemovedOneDecrease();
        widthFrom1To30();
        misplacedIfNotTheSameShelf();
        widthsAtMostTheRoom();
        freeRoomIsRoomMinusWidths();
        callsAre0AtFirst();
        weightIsTwiceAndOnce();
        costIsASumOverAllRecords();
        promise1SixShelvesWithoutRecords();
        promise2RefusesNoSuchShelf();
        promise2RefusesARoomOrReachOutOfRange();
        promise2RefusesLessRoomThanWidths();
        promise2ReturnsTheFreeRoom();
        promise3RefusesNoSuchShelf();
        promise3RefusesAWidthOutOfRange();
        promise3Refuses17Records();
        promise3RefusesTooLittleRoom();
        promise3ReturnsTheNumber();
        promise4ReturnsTheShelfOnWhichItWas();
        promise4RefusesNoSuchRecord();
        promise5FromNoneTo16();
        promises6To9RefuseNoSuchRecord();
        promise10And11RefuseNoSuchShelf();
        CHECK.end();
    }

    private static void sixShelves() {
        CHECK.sentence("There are six shelves, numbered from 0.");
        VaultShelves x = new VaultShelves();
        for (int shelf = 0; shelf < 6; shelf++) {
            CHECK.equal("shelf " + shelf, x.free(shelf), 30);
            CHECK.equal("a record for the shelf " + shelf, x.addRecord(3, shelf), shelf);
            CHECK.equal("it is on the shelf " + shelf, x.shelfOf(shelf), shelf);
        }
        for (int shelf : NO_SHELVES) {
            CHECK.equal("free(" + shelf + ")", Check.outcome(() -> x.free(shelf)), "throws IndexOutOfBoundsException");
        }
    }

    private static void roomFrom10To99() {
        CHECK.sentence("A shelf has a room from 10 to 99, at first 30");
        VaultShelves x = new VaultShelves();
        for (int shelf = 0; shelf < 6; shelf++) {
            CHECK.equal("at first, shelf " + shelf, x.free(shelf), 30);
        }
        for (int shelf = 0; shelf < 6; shelf++) {
            int number = shelf;
            CHECK.equal("10, shelf " + shelf, x.setShelf(shelf, 10, 5), 10);
            CHECK.equal("10 is kept", x.free(shelf), 10);
            CHECK.equal("11", x.setShelf(shelf, 11, 5), 11);
            CHECK.equal("98", x.setShelf(shelf, 98, 5), 98);
            CHECK.equal("99, shelf " + shelf, x.setShelf(shelf, 99, 5), 99);
            CHECK.equal("99 is kept", x.free(shelf), 99);
            CHECK.refused("9", x, WRONG, () -> x.setShelf(number, 9, 5));
            CHECK.refused("100", x, WRONG, () -> x.setShelf(number, 100, 5));
        }
    }

    private static void reachFrom1To99() {
        CHECK.sentence("and a reach from 1 to 99, which is at first 10 for the shelf 0, 20 for the shelf 1, and so on "
                + "up to 60 for the shelf 5.");
        VaultShelves x = new VaultShelves();
        int[] first = {10, 20, 30, 40, 50, 60};
        for (int shelf = 0; shelf < 6; shelf++) {
            CHECK.equal("at first, shelf " + shelf, x.reach(shelf), first[shelf]);
        }
        for (int shelf = 0; shelf < 6; shelf++) {
            int number = shelf;
            for (int reach : new int[] {1, 2, 98, 99}) {
                CHECK.equal("reach " + reach, x.setShelf(shelf, 30, reach), 30);
                CHECK.equal(reach + " is kept by " + shelf, x.reach(shelf), reach);
            }
            CHECK.refused("0", x, WRONG, () -> x.setShelf(number, 30, 0));
            CHECK.refused("100", x, WRONG, () -> x.setShelf(number, 30, 100));
        }
    }

    private static void atMost16Records() {
        CHECK.sentence("There are at most 16 records");
        VaultShelves x = new VaultShelves();
        for (int record = 0; record < 16; record++) {
            x.addRecord(1, record % 6);
        }
        CHECK.equal("16 records", x.records(), 16);
        for (int shelf = 0; shelf < 6; shelf++) {
            int number = shelf;
            CHECK.refused("the seventeenth on " + shelf, x, NOT_NOW, () -> x.addRecord(1, number));
        }
        CHECK.equal("still 16", x.records(), 16);
    }

    private static void numberedInTheOrderOfAdding() {
        CHECK.sentence("which are numbered from 0 in the order in which they are added");
        VaultShelves x = new VaultShelves();
        for (int shelf = 0; shelf < 6; shelf++) {
            x.setShelf(shelf, 99, 10);
        }
        for (int record = 0; record < 16; record++) {
            CHECK.equal("number", x.addRecord(16 - record, 5 - record % 6), record);
        }
        for (int record = 0; record < 16; record++) {
            CHECK.equal("width of " + record, x.width(record), 16 - record);
        }
    }

    private static void numbersBehindARemovedOneDecrease() {
        CHECK.sentence("when a record is removed, the numbers of the records behind it decrease by 1.");
        for (int removed : new int[] {0, 1, 7, 14, 15}) {
            VaultShelves x = Vaults.full();
            for (int record = 0; record < 16; record++) {
                Check.callOften(x, record, record);
                x.misplace(record, (record + record / 6) % 6);
            }
            x.removeRecord(removed);
            for (int record = 0; record < 15; record++) {
                int before = record < removed ? record : record + 1;
                String name = " of " + record + " without " + removed;
                CHECK.equal("width" + name, x.width(record), 1 + before % 5);
                CHECK.equal("shelf" + name, x.shelfOf(record), (before + before / 6) % 6);
                CHECK.equal("catalog" + name, x.catalog(record), before % 6);
                CHECK.equal("weight" + name, x.weight(record), 2 * before);
            }
            CHECK.refused("the number 15 is free without " + removed, x, NO_SUCH, () -> x.width(15));
            CHECK.equal("and is given again", x.addRecord(9, 5), 15);
            CHECK.equal("to the new one", x.width(15), 9);
        }
    }

    private static void widthFrom1To30() {
        CHECK.sentence("A record has a width from 1 to 30");
        VaultShelves x = new VaultShelves();
        x.setShelf(0, 99, 10);
        int[] widths = {1, 2, 29, 30};
        for (int record = 0; record < 4; record++) {
            CHECK.equal("taken: " + widths[record], x.addRecord(widths[record], 0), record);
            CHECK.equal("kept: " + widths[record], x.width(record), widths[record]);
        }
        x.setShelf(1, 99, 20);
        CHECK.refused("0", x, WRONG, () -> x.addRecord(0, 1));
        CHECK.refused("31, though the shelf has room", x, WRONG, () -> x.addRecord(31, 1));
    }

    private static void misplacedIfNotTheSameShelf() {
        CHECK.sentence("It is misplaced if these are not the same shelf.");
        for (int home = 0; home < 6; home++) {
            VaultShelves x = new VaultShelves();
            x.addRecord(9, home);
            for (int shelf = 0; shelf < 6; shelf++) {
                x.misplace(0, shelf);
                CHECK.equal("of " + home + " on " + shelf, x.misplaced(), shelf == home ? 0 : 1);
                CHECK.equal("reason", x.reason(0, (shelf + 1) % 6) == 1 ? 1 : 0, shelf == home ? 0 : 1);
            }
        }
    }

    private static void widthsAtMostTheRoom() {
        CHECK.sentence("The sum of the widths of the records that are on a shelf (also of misplaced ones) is at most "
                + "the room of the shelf.");
        VaultShelves x = new VaultShelves();
        x.setShelf(3, 99, 40);
        x.addRecord(30, 3);
        x.addRecord(30, 3);
        x.addRecord(30, 3);
        x.addRecord(9, 1);
        x.addRecord(1, 2);
        CHECK.equal("99 of 99, the last one misplaced", x.misplace(3, 3), 1);
        CHECK.refused("no more by addRecord()", x, NOT_NOW, () -> x.addRecord(1, 3));
        CHECK.refused("no more by misplace()", x, NOT_NOW, () -> x.misplace(4, 3));
        CHECK.refused("no less by setShelf()", x, NOT_NOW, () -> x.setShelf(3, 98, 40));
        CHECK.equal("as much by setShelf()", x.setShelf(3, 99, 1), 0);
        x.call(4);
        CHECK.equal("no more by night()", x.reason(4, 3), 3);
        x.misplace(0, 5);
        CHECK.equal("a misplaced one leaves its room", x.addRecord(30, 3), 5);
        CHECK.refused("but not more", x, NOT_NOW, () -> x.addRecord(1, 3));
        VaultShelves least = new VaultShelves();
        least.setShelf(0, 10, 10);
        for (int record = 0; record < 10; record++) {
            CHECK.equal("ten times 1 on a room of 10", least.addRecord(1, 0), record);
        }
        CHECK.refused("not eleven times", least, NOT_NOW, () -> least.addRecord(1, 0));
    }

    private static void freeRoomIsRoomMinusWidths() {
        CHECK.sentence("The free room of a shelf is its room minus this sum.");
        VaultShelves x = new VaultShelves();
        CHECK.equal("empty", x.free(4), 30);
        x.addRecord(29, 4);
        CHECK.equal("all but 1", x.free(4), 1);
        x.addRecord(1, 4);
        CHECK.equal("full", x.free(4), 0);
        x.misplace(0, 2);
        CHECK.equal("left by a misplaced one", x.free(4), 29);
        CHECK.equal("taken by a misplaced one", x.free(2), 1);
        x.call(0);
        CHECK.equal("found, it is where it was", x.free(2), 1);
        x.removeRecord(0);
        CHECK.equal("empty again", x.free(2), 30);
        x.removeRecord(0);
        CHECK.equal("both", x.free(4), 30);
    }

    private static void callsAre0AtFirst() {
        CHECK.sentence("A record has two numbers of calls, those of this month and those of the last month, both 0 at "
                + "first.");
        VaultShelves x = new VaultShelves();
        x.addRecord(5, 0);
        CHECK.equal("the first record", x.weight(0), 0);
        CHECK.equal("its month", x.month(), 0);
        CHECK.equal("and the next", x.weight(0), 0);
        x.call(0);
        x.month();
        x.call(0);
        x.removeRecord(0);
        CHECK.equal("a record in the place of a removed one", x.addRecord(5, 0), 0);
        CHECK.equal("its weight", x.weight(0), 0);
        CHECK.equal("its calls of this month", x.month(), 0);
        CHECK.equal("its weight in the next month", x.weight(0), 0);
        VaultShelves y = Vaults.full();
        y.call(15);
        y.month();
        y.call(15);
        y.removeRecord(3);
        y.addRecord(1, 0);
        CHECK.equal("the sixteenth once more", y.weight(15), 0);
        CHECK.equal("the fifteenth keeps its own", y.weight(14), 3);
    }

    private static void weightIsTwiceAndOnce() {
        CHECK.sentence("The weight of a record is 2 times its calls of this month plus its calls of the last month.");
        VaultShelves x = new VaultShelves();
        x.addRecord(5, 0);
        CHECK.equal("no call", x.weight(0), 0);
        x.call(0);
        CHECK.equal("1 and 0", x.weight(0), 2);
        x.month();
        CHECK.equal("0 and 1", x.weight(0), 1);
        x.call(0);
        x.call(0);
        CHECK.equal("2 and 1", x.weight(0), 5);
        x.month();
        CHECK.equal("0 and 2", x.weight(0), 2);
        x.month();
        CHECK.equal("0 and 0", x.weight(0), 0);
    }

    private static void costIsASumOverAllRecords() {
        CHECK.sentence("The cost of the vault is the sum, over all records, of the weight multiplied by the reach of "
                + "the shelf on which the record should be by the catalog.");
        VaultShelves x = Vaults.full();
        CHECK.equal("16 records without calls", x.cost(), 0);
        int due = 0;
        for (int record = 0; record < 16; record++) {
            x.call(record);
            due += 2 * 10 * (record % 6 + 1);
            CHECK.equal("one more record, up to " + record, x.cost(), due);
        }
        x.setShelf(3, 30, 99);
        CHECK.equal("the greatest reach", x.cost(), due + 3 * 2 * (99 - 40));
        x.setShelf(3, 30, 1);
        CHECK.equal("the least reach", x.cost(), due + 3 * 2 * (1 - 40));
        x.misplace(15, 0);
        CHECK.equal("a misplaced one by the catalog", x.cost(), due + 3 * 2 * (1 - 40));
        x.removeRecord(15);
        CHECK.equal("a removed one no more", x.cost(), due + 2 * 2 * (1 - 40) - 2 * 40);
    }

    private static void promise1SixShelvesWithoutRecords() {
        CHECK.sentence("Creates six shelves without records.");
        VaultShelves x = new VaultShelves();
        CHECK.equal("records", x.records(), 0);
        CHECK.refused("no record 0", x, NO_SUCH, () -> x.width(0));
        CHECK.equal("misplaced", x.misplaced(), 0);
        CHECK.equal("walked", x.walked(), 0);
        CHECK.equal("cost", x.cost(), 0);
        CHECK.equal("steps", x.steps(), 0);
        CHECK.equal("bestGain", x.bestGain(), 0);
        CHECK.equal("costAfterNight", x.costAfterNight(20), 0);
        CHECK.equal("fullness", x.fullness(), 0.0);
        CHECK.equal("firstError", x.firstError(), 0);
        CHECK.equal("clearText", x.clearText(), 0);
        CHECK.equal("savedStates", x.savedStates(), 0);
    }

    private static void promise2RefusesNoSuchShelf() {
        CHECK.sentence("2: Throws `IndexOutOfBoundsException` if there is no such shelf");
        VaultShelves x = new VaultShelves();
        for (int shelf : NO_SHELVES) {
            CHECK.refused("setShelf of " + shelf, x, NO_SUCH, () -> x.setShelf(shelf, 30, 10));
        }
        CHECK.equal("the first", x.setShelf(0, 31, 11), 31);
        CHECK.equal("the last", x.setShelf(5, 32, 12), 32);
        CHECK.equal("the first has its own reach", x.reach(0), 11);
        CHECK.equal("and so has the last", x.reach(5), 12);
        for (int shelf = 1; shelf < 5; shelf++) {
            CHECK.equal("the room of the others stays", x.free(shelf), 30);
            CHECK.equal("the reach of the others stays", x.reach(shelf), 10 * (shelf + 1));
        }
    }

    private static void promise2RefusesARoomOrReachOutOfRange() {
        CHECK.sentence("2: Throws `IllegalArgumentException` if room or reach is out of range");
        VaultShelves x = new VaultShelves();
        for (int room : new int[] {9, 100, 0, -10, -30, Integer.MIN_VALUE, Integer.MAX_VALUE}) {
            CHECK.refused("room " + room, x, WRONG, () -> x.setShelf(0, room, 10));
        }
        for (int reach : new int[] {0, 100, -1, -10, Integer.MIN_VALUE, Integer.MAX_VALUE}) {
            CHECK.refused("reach " + reach, x, WRONG, () -> x.setShelf(0, 30, reach));
        }
        CHECK.refused("both", x, WRONG, () -> x.setShelf(0, 9, 100));
        CHECK.equal("both at the least", x.setShelf(0, 10, 1), 10);
        CHECK.equal("both at the greatest", x.setShelf(0, 99, 99), 99);
    }

    private static void promise2RefusesLessRoomThanWidths() {
        CHECK.sentence("2: Throws `IllegalStateException` if the widths of the records on the shelf have a greater sum "
                + "than room");
        VaultShelves x = new VaultShelves();
        x.addRecord(10, 4);
        x.addRecord(10, 4);
        x.addRecord(5, 0);
        x.misplace(2, 4);
        CHECK.refused("24 for 25", x, NOT_NOW, () -> x.setShelf(4, 24, 50));
        CHECK.refused("10 for 25", x, NOT_NOW, () -> x.setShelf(4, 10, 50));
        CHECK.equal("25 for 25", x.setShelf(4, 25, 50), 0);
        CHECK.equal("26 for 25", x.setShelf(4, 26, 50), 1);
        x.misplace(0, 1);
        CHECK.refused("14 for 15", x, NOT_NOW, () -> x.setShelf(4, 14, 50));
        CHECK.equal("15 for 15, for the misplaced one is elsewhere", x.setShelf(4, 15, 50), 0);
        CHECK.equal("10 for 10 of a misplaced one", x.setShelf(1, 10, 20), 0);
        CHECK.equal("10 for none", x.setShelf(0, 10, 10), 10);
    }

    private static void promise2ReturnsTheFreeRoom() {
        CHECK.sentence("2: Returns the free room after the call.");
        VaultShelves x = new VaultShelves();
        x.addRecord(30, 2);
        CHECK.equal("none", x.setShelf(2, 30, 30), 0);
        CHECK.equal("one", x.setShelf(2, 31, 30), 1);
        CHECK.equal("the greatest with a record", x.setShelf(2, 99, 30), 69);
        CHECK.equal("the greatest of all", x.setShelf(3, 99, 30), 99);
        CHECK.equal("the least of an empty shelf", x.setShelf(3, 10, 30), 10);
    }

    private static void promise3RefusesNoSuchShelf() {
        CHECK.sentence("3: Throws `IndexOutOfBoundsException` if there is no such shelf");
        VaultShelves x = new VaultShelves();
        for (int shelf : NO_SHELVES) {
            CHECK.refused("addRecord to " + shelf, x, NO_SUCH, () -> x.addRecord(1, shelf));
        }
        CHECK.equal("the first shelf", x.addRecord(1, 0), 0);
        CHECK.equal("the last shelf", x.addRecord(1, 5), 1);
        CHECK.equal("is its shelf", x.shelfOf(1), 5);
        CHECK.equal("by the catalog, too", x.catalog(1), 5);
    }

    private static void promise3RefusesAWidthOutOfRange() {
        CHECK.sentence("3: Throws `IllegalArgumentException` if width is out of range");
        VaultShelves x = new VaultShelves();
        x.setShelf(0, 99, 10);
        for (int width : new int[] {0, 31, -1, -30, 99, Integer.MIN_VALUE, Integer.MAX_VALUE}) {
            CHECK.refused("width " + width, x, WRONG, () -> x.addRecord(width, 0));
        }
        CHECK.equal("1", x.addRecord(1, 0), 0);
        CHECK.equal("30", x.addRecord(30, 0), 1);
        CHECK.equal("room for both", x.free(0), 68);
    }

    private static void promise3Refuses17Records() {
        CHECK.sentence("3: Throws `IllegalStateException` if there are 16 records");
        VaultShelves x = Vaults.full();
        CHECK.refused("with room", x, NOT_NOW, () -> x.addRecord(1, 5));
        x.removeRecord(15);
        CHECK.equal("with 15 records", x.addRecord(1, 5), 15);
        CHECK.refused("with 16 again", x, NOT_NOW, () -> x.addRecord(1, 5));
        x.undo();
        CHECK.equal("with 15 by undo", x.addRecord(1, 5), 15);
    }

    private static void promise3RefusesTooLittleRoom() {
        CHECK.sentence("or the shelf has less free room than width");
        VaultShelves x = new VaultShelves();
        x.setShelf(0, 10, 10);
        CHECK.refused("11 for 10", x, NOT_NOW, () -> x.addRecord(11, 0));
        CHECK.equal("10 for 10", x.addRecord(10, 0), 0);
        CHECK.refused("1 for 0", x, NOT_NOW, () -> x.addRecord(1, 0));
        CHECK.equal("30 for 30", x.addRecord(30, 1), 1);
        x.setShelf(1, 31, 20);
        CHECK.refused("2 for 1", x, NOT_NOW, () -> x.addRecord(2, 1));
        CHECK.equal("1 for 1", x.addRecord(1, 1), 2);
    }

    private static void promise3ReturnsTheNumber() {
        CHECK.sentence("3: Returns the number of the record.");
        VaultShelves x = new VaultShelves();
        CHECK.equal("first", x.addRecord(1, 3), 0);
        CHECK.equal("second", x.addRecord(1, 3), 1);
        x.removeRecord(0);
        CHECK.equal("second again", x.addRecord(1, 3), 1);
        x.removeRecord(0);
        x.removeRecord(0);
        CHECK.equal("first again", x.addRecord(1, 3), 0);
    }

    private static void promise4ReturnsTheShelfOnWhichItWas() {
        CHECK.sentence("Returns the shelf on which it was (not the one of the catalog).");
        for (int home = 0; home < 6; home++) {
            for (int shelf = 0; shelf < 6; shelf++) {
                VaultShelves x = new VaultShelves();
                x.addRecord(30, home);
                x.misplace(0, shelf);
                CHECK.equal("of " + home + ", on " + shelf, x.removeRecord(0), shelf);
                CHECK.equal("its room", x.free(shelf), 30);
                CHECK.equal("the other room", x.free(home), 30);
            }
        }
    }

    private static void promise4RefusesNoSuchRecord() {
        CHECK.sentence("4: Throws `IndexOutOfBoundsException` if there is no such record");
        VaultShelves x = new VaultShelves();
        CHECK.refused("of none", x, NO_SUCH, () -> x.removeRecord(0));
        x.addRecord(2, 2);
        for (int record : new int[] {-1, 1, 2, 15, 16, Integer.MIN_VALUE, Integer.MAX_VALUE}) {
            CHECK.refused("of one: " + record, x, NO_SUCH, () -> x.removeRecord(record));
        }
        CHECK.equal("the only one", x.removeRecord(0), 2);
        CHECK.refused("of none again", x, NO_SUCH, () -> x.removeRecord(0));
        VaultShelves y = Vaults.full();
        CHECK.refused("of 16: 16", y, NO_SUCH, () -> y.removeRecord(16));
        for (int left = 15; left >= 0; left--) {
            CHECK.equal("the last one of " + (left + 1), y.removeRecord(left), left % 6);
            CHECK.equal("are left", y.records(), left);
        }
    }

    private static void promise5FromNoneTo16() {
        CHECK.sentence("5: Returns the number of records.");
        VaultShelves x = new VaultShelves();
        for (int records = 0; records < 16; records++) {
            CHECK.equal("before the next one", x.records(), records);
            x.addRecord(1, records % 6);
        }
        CHECK.equal("all", x.records(), 16);
        for (int records = 15; records >= 0; records--) {
            x.removeRecord(0);
            CHECK.equal("behind a removal", x.records(), records);
        }
    }

    private static void promises6To9RefuseNoSuchRecord() {
        CHECK.sentence("6 to 9: Throws `IndexOutOfBoundsException` if there is no such record");
        Check.Maker[] makers = {VaultShelves::new, ShelvesBoundsTest::oneRecord, Vaults::full};
        int[] records = {0, 1, 16};
        for (int i = 0; i < 3; i++) {
            int beyond = records[i];
            for (int record : new int[] {-1, beyond, beyond + 1, Integer.MIN_VALUE, Integer.MAX_VALUE}) {
                String name = record + " of " + beyond;
                VaultShelves x = makers[i].make();
                CHECK.refused("width " + name, x, NO_SUCH, () -> x.width(record));
                CHECK.refused("shelfOf " + name, x, NO_SUCH, () -> x.shelfOf(record));
                CHECK.refused("catalog " + name, x, NO_SUCH, () -> x.catalog(record));
                CHECK.refused("weight " + name, x, NO_SUCH, () -> x.weight(record));
            }
        }
        VaultShelves x = Vaults.full();
        x.misplace(15, 0);
        x.call(0);
        x.call(15);
        x.misplace(15, 4);
        CHECK.equal("width of the first", x.width(0), 1);
        CHECK.equal("width of the last", x.width(15), 1);
        CHECK.equal("shelf of the first", x.shelfOf(0), 0);
        CHECK.equal("shelf of the last", x.shelfOf(15), 4);
        CHECK.equal("catalog of the first", x.catalog(0), 0);
        CHECK.equal("catalog of the last", x.catalog(15), 0);
        CHECK.equal("weight of the first", x.weight(0), 2);
        CHECK.equal("weight of the last", x.weight(15), 2);
        CHECK.equal("weight of one between", x.weight(7), 0);
    }

    private static VaultShelves oneRecord() {
        VaultShelves x = new VaultShelves();
        x.addRecord(7, 3);
        return x;
    }

    private static void promise10And11RefuseNoSuchShelf() {
        CHECK.sentence("10 and 11: Throws `IndexOutOfBoundsException` if there is no such shelf");
        VaultShelves x = new VaultShelves();
        for (int shelf : NO_SHELVES) {
            CHECK.refused("free(" + shelf + ")", x, NO_SUCH, () -> x.free(shelf));
            CHECK.refused("reach(" + shelf + ")", x, NO_SUCH, () -> x.reach(shelf));
        }
        x.addRecord(30, 0);
        x.addRecord(1, 5);
        CHECK.equal("free room of the first", x.free(0), 0);
        CHECK.equal("free room of the last", x.free(5), 29);
        CHECK.equal("reach of the first", x.reach(0), 10);
        CHECK.equal("reach of the last", x.reach(5), 60);
    }
}
