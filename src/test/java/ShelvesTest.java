/** Promises 1 to 11: a new object, shelves and records. */
final class ShelvesTest {
    private static final Class<?> NO_SUCH = IndexOutOfBoundsException.class;
    private static final Class<?> WRONG = IllegalArgumentException.class;
    private static final Class<?> NOT_NOW = IllegalStateException.class;
    private static final Check CHECK = new Check("ShelvesTest");

    public static void main(String[] args) {
        promise1NewObject();
        promise2SetShelf();
        promise2Refusals();
        promise3AddRecord();
        promise3Refusals();
        promise4RemoveRecord();
        promise4NumbersMove();
        promises5To9Records();
        promises10And11Shelves();
        CHECK.end();
    }

    private static void promise1NewObject() {
        VaultShelves x = new VaultShelves();
        CHECK.equal("1: NONE", VaultShelves.NONE, -1);
        CHECK.equal("1: records", x.records(), 0);
        for (int shelf = 0; shelf < 6; shelf++) {
            CHECK.equal("1: free " + shelf, x.free(shelf), 30);
            CHECK.equal("1: reach " + shelf, x.reach(shelf), 10 * (shelf + 1));
        }
        CHECK.equal("1: misplaced", x.misplaced(), 0);
        CHECK.equal("1: walked", x.walked(), 0);
        CHECK.equal("1: cost", x.cost(), 0);
        CHECK.equal("1: steps", x.steps(), 0);
        CHECK.equal("1: savedStates", x.savedStates(), 0);
        CHECK.equal("1: clearText", x.clearText(), 0);
        VaultShelves other = new VaultShelves();
        other.addRecord(5, 0);
        CHECK.equal("1: objects are apart", x.records(), 0);
    }

    private static void promise2SetShelf() {
        VaultShelves x = new VaultShelves();
        CHECK.equal("2: least", x.setShelf(0, 10, 1), 10);
        CHECK.equal("2: least reach", x.reach(0), 1);
        CHECK.equal("2: greatest", x.setShelf(5, 99, 99), 99);
        CHECK.equal("2: greatest reach", x.reach(5), 99);
        CHECK.equal("2: the others stay", x.free(1), 30);
        CHECK.equal("2: the others' reach", x.reach(1), 20);
        x.addRecord(12, 2);
        x.addRecord(13, 2);
        CHECK.equal("2: free room with records", x.setShelf(2, 40, 7), 15);
        CHECK.equal("2: just room enough", x.setShelf(2, 25, 7), 0);
        CHECK.equal("2: saves a state each time", x.savedStates(), 6);
        x.undo();
        CHECK.equal("2: undo gives the room back", x.free(2), 15);
        VaultShelves same = new VaultShelves();
        CHECK.equal("2: nothing changes", same.setShelf(0, 30, 10), 30);
        CHECK.equal("2: saved even so", same.savedStates(), 1);
    }

    private static void promise2Refusals() {
        VaultShelves x = new VaultShelves();
        x.addRecord(20, 1);
        x.addRecord(9, 2);
        x.misplace(1, 1);
        CHECK.refused("2: shelf -1", x, NO_SUCH, () -> x.setShelf(-1, 30, 10));
        CHECK.refused("2: shelf 6", x, NO_SUCH, () -> x.setShelf(6, 30, 10));
        CHECK.refused("2: shelf far off", x, NO_SUCH, () -> x.setShelf(Integer.MIN_VALUE, 30, 10));
        CHECK.refused("2: shelf before room", x, NO_SUCH, () -> x.setShelf(6, 9, 0));
        CHECK.refused("2: room 9", x, WRONG, () -> x.setShelf(0, 9, 10));
        CHECK.refused("2: room 100", x, WRONG, () -> x.setShelf(0, 100, 10));
        CHECK.refused("2: reach 0", x, WRONG, () -> x.setShelf(0, 30, 0));
        CHECK.refused("2: reach 100", x, WRONG, () -> x.setShelf(0, 30, 100));
        CHECK.refused("2: reach before widths", x, WRONG, () -> x.setShelf(1, 20, 100));
        CHECK.refused("2: room before widths", x, WRONG, () -> x.setShelf(1, 9, 10));
        CHECK.refused("2: a misplaced record counts", x, NOT_NOW, () -> x.setShelf(1, 28, 10));
        CHECK.equal("2: 29 is enough", x.setShelf(1, 29, 10), 0);
        CHECK.equal("2: the shelf it left has room", x.setShelf(2, 10, 10), 10);
    }

    private static void promise3AddRecord() {
        VaultShelves x = new VaultShelves();
        CHECK.equal("3: first", x.addRecord(30, 5), 0);
        CHECK.equal("3: second", x.addRecord(1, 4), 1);
        CHECK.equal("3: fills the shelf", x.addRecord(29, 4), 2);
        CHECK.equal("3: shelf", x.shelfOf(2), 4);
        CHECK.equal("3: catalog", x.catalog(2), 4);
        CHECK.equal("3: width", x.width(2), 29);
        CHECK.equal("3: weight", x.weight(2), 0);
        CHECK.equal("3: free", x.free(4), 0);
        CHECK.equal("3: saved", x.savedStates(), 3);
        x.undo();
        CHECK.equal("3: undone", x.records(), 2);
        CHECK.equal("3: room undone", x.free(4), 29);
    }

    private static void promise3Refusals() {
        VaultShelves x = new VaultShelves();
        x.addRecord(21, 0);
        CHECK.refused("3: shelf -1", x, NO_SUCH, () -> x.addRecord(5, -1));
        CHECK.refused("3: shelf 6", x, NO_SUCH, () -> x.addRecord(5, 6));
        CHECK.refused("3: shelf before width", x, NO_SUCH, () -> x.addRecord(31, Integer.MAX_VALUE));
        CHECK.refused("3: width 0", x, WRONG, () -> x.addRecord(0, 0));
        CHECK.refused("3: width 31", x, WRONG, () -> x.addRecord(31, 0));
        CHECK.refused("3: width below 0", x, WRONG, () -> x.addRecord(-1, 1));
        CHECK.refused("3: too little room", x, NOT_NOW, () -> x.addRecord(10, 0));
        CHECK.equal("3: just room enough", x.addRecord(9, 0), 1);
        for (int i = 2; i < 16; i++) {
            CHECK.equal("3: number " + i, x.addRecord(1, 1 + i % 5), i);
        }
        CHECK.refused("3: 16 records", x, NOT_NOW, () -> x.addRecord(1, 3));
        CHECK.refused("3: width before 16 records", x, WRONG, () -> x.addRecord(31, 3));
        x.removeRecord(7);
        CHECK.equal("3: again the sixteenth", x.addRecord(1, 3), 15);
    }

    private static void promise4RemoveRecord() {
        VaultShelves x = new VaultShelves();
        x.addRecord(8, 3);
        x.misplace(0, 5);
        CHECK.refused("4: record -1", x, NO_SUCH, () -> x.removeRecord(-1));
        CHECK.refused("4: record 1", x, NO_SUCH, () -> x.removeRecord(1));
        CHECK.equal("4: the shelf on which it was", x.removeRecord(0), 5);
        CHECK.equal("4: records", x.records(), 0);
        CHECK.equal("4: its room is free", x.free(5), 30);
        CHECK.equal("4: the catalog's shelf too", x.free(3), 30);
        CHECK.equal("4: no misplaced one", x.misplaced(), 0);
        CHECK.refused("4: none is left", x, NO_SUCH, () -> x.removeRecord(0));
        CHECK.equal("4: saved", x.savedStates(), 3);
        x.undo();
        CHECK.equal("4: undone", x.shelfOf(0), 5);
        CHECK.equal("4: catalog undone", x.catalog(0), 3);
    }

    private static void promise4NumbersMove() {
        VaultShelves x = new VaultShelves();
        x.addRecord(1, 0);
        x.addRecord(2, 1);
        x.addRecord(3, 2);
        x.addRecord(4, 3);
        x.call(3);
        x.month();
        Check.callOften(x, 3, 2);
        x.misplace(3, 4);
        CHECK.equal("4: from the middle", x.removeRecord(1), 1);
        CHECK.equal("4: before it", x.width(0), 1);
        CHECK.equal("4: behind it", x.width(1), 3);
        CHECK.equal("4: last width", x.width(2), 4);
        CHECK.equal("4: last shelf", x.shelfOf(2), 4);
        CHECK.equal("4: last catalog", x.catalog(2), 3);
        CHECK.equal("4: last weight", x.weight(2), 5);
        CHECK.refused("4: one fewer", x, NO_SUCH, () -> x.width(3));
        CHECK.equal("4: a new one has no calls", x.addRecord(6, 0), 3);
        CHECK.equal("4: its weight", x.weight(3), 0);
        x.month();
        CHECK.equal("4: nor any last month", x.weight(3), 0);
    }

    private static void promises5To9Records() {
        VaultShelves x = new VaultShelves();
        x.addRecord(7, 2);
        x.addRecord(11, 4);
        x.misplace(1, 0);
        Check.callOften(x, 0, 3);
        CHECK.equal("5: records", x.records(), 2);
        CHECK.equal("6: width", x.width(1), 11);
        CHECK.equal("7: shelfOf", x.shelfOf(1), 0);
        CHECK.equal("7: shelfOf 0", x.shelfOf(0), 2);
        CHECK.equal("8: catalog", x.catalog(1), 4);
        CHECK.equal("8: catalog 0", x.catalog(0), 2);
        CHECK.equal("9: calls of this month twice", x.weight(0), 6);
        x.month();
        CHECK.equal("9: calls of the last month once", x.weight(0), 3);
        x.call(0);
        CHECK.equal("9: both", x.weight(0), 5);
        for (int record : new int[] {-1, 2, 16, Integer.MIN_VALUE, Integer.MAX_VALUE}) {
            CHECK.refused("6: width " + record, x, NO_SUCH, () -> x.width(record));
            CHECK.refused("7: shelfOf " + record, x, NO_SUCH, () -> x.shelfOf(record));
            CHECK.refused("8: catalog " + record, x, NO_SUCH, () -> x.catalog(record));
            CHECK.refused("9: weight " + record, x, NO_SUCH, () -> x.weight(record));
        }
    }

    private static void promises10And11Shelves() {
        VaultShelves x = new VaultShelves();
        x.addRecord(7, 2);
        x.addRecord(5, 2);
        x.misplace(1, 3);
        CHECK.equal("10: free", x.free(2), 23);
        CHECK.equal("10: a misplaced one counts where it is", x.free(3), 25);
        x.setShelf(3, 5 + 5, 42);
        CHECK.equal("10: free of a small shelf", x.free(3), 5);
        CHECK.equal("11: reach", x.reach(3), 42);
        for (int shelf : new int[] {-1, 6, Integer.MIN_VALUE, Integer.MAX_VALUE}) {
            CHECK.refused("10: free " + shelf, x, NO_SUCH, () -> x.free(shelf));
            CHECK.refused("11: reach " + shelf, x, NO_SUCH, () -> x.reach(shelf));
        }
    }
}
