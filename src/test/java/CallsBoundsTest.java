/** Each sentence about a bound under "Calls" and the promises 12 to 16. */
final class CallsBoundsTest {
    private static final Class<?> NO_SUCH = IndexOutOfBoundsException.class;
    private static final Class<?> NOT_NOW = IllegalStateException.class;
    private static final int[] NO_SHELVES = {-1, 6, 7, -6, 99, Integer.MIN_VALUE, Integer.MAX_VALUE};
    private static final Check CHECK = new Check("CallsBoundsTest");

    public static void main(String[] args) {
        callsIncreaseBy1();
        walkUntilAndWithTheShelf();
        searchedByReachesThenNumbers();
        searchedOnAnyReaches();
        catalogIsCorrected();
        promise12RefusesNoSuchRecord();
        promise12ReturnsTheLeastAndTheGreatestWalk();
        promise13RefusesNoSuchRecordOrShelf();
        promise13RefusesTooLittleRoom();
        promise13TakesTheShelfOnWhichItIs();
        promise13DoesNotTellTheCatalog();
        promise13ReturnsTheShelfBefore();
        promise14MonthsFollowOneAnother();
        promise14ReturnsTheCallsOfTheMonth();
        promise15FromNoneTo16();
        promise16SumsAllWalks();
        CHECK.end();
    }

    private static void callsIncreaseBy1() {
        CHECK.sentence("When a record is called, its calls of this month increase by 1.");
        VaultShelves x = new VaultShelves();
        x.addRecord(1, 0);
        x.addRecord(1, 1);
        x.addRecord(1, 2);
        for (int calls = 1; calls <= 20; calls++) {
            x.call(1);
            CHECK.equal("its weight", x.weight(1), 2 * calls);
        }
        CHECK.equal("the one before it", x.weight(0), 0);
        CHECK.equal("the one behind it", x.weight(2), 0);
        CHECK.equal("all calls", x.month(), 20);
        x.call(1);
        CHECK.equal("not those of the last month", x.weight(1), 2 + 20);
    }

    private static void walkUntilAndWithTheShelf() {
        CHECK.sentence("that of the shelf on which it should be, and then, if it is misplaced, those of other shelves, "
                + "one after the other, until (and with) the shelf on which it is.");
        int[][] due = {
            {10, 10 + 20, 10 + 20 + 30, 10 + 20 + 30 + 40, 10 + 20 + 30 + 40 + 50, 10 + 20 + 30 + 40 + 50 + 60},
            {20 + 10, 20, 20 + 10 + 30, 20 + 10 + 30 + 40, 20 + 10 + 30 + 40 + 50, 20 + 10 + 30 + 40 + 50 + 60},
            {30 + 10, 30 + 10 + 20, 30, 30 + 10 + 20 + 40, 30 + 10 + 20 + 40 + 50, 30 + 10 + 20 + 40 + 50 + 60},
            {40 + 10, 40 + 10 + 20, 40 + 10 + 20 + 30, 40, 40 + 10 + 20 + 30 + 50, 40 + 10 + 20 + 30 + 50 + 60},
            {50 + 10, 50 + 10 + 20, 50 + 10 + 20 + 30, 50 + 10 + 20 + 30 + 40, 50, 50 + 10 + 20 + 30 + 40 + 60},
            {60 + 10, 60 + 10 + 20, 60 + 10 + 20 + 30, 60 + 10 + 20 + 30 + 40, 60 + 10 + 20 + 30 + 40 + 50, 60},
        };
        for (int home = 0; home < 6; home++) {
            for (int shelf = 0; shelf < 6; shelf++) {
                VaultShelves x = new VaultShelves();
                x.addRecord(3, home);
                x.misplace(0, shelf);
                CHECK.equal("walkTo from " + home + " to " + shelf, x.walkTo(0), due[home][shelf]);
                CHECK.equal("call from " + home + " to " + shelf, x.call(0), due[home][shelf]);
            }
        }
    }

    private static void searchedByReachesThenNumbers() {
        CHECK.sentence("The other shelves are searched in ascending order of their reaches, and among equal reaches in "
                + "ascending order of their numbers.");
        VaultShelves x = new VaultShelves();
        for (int shelf = 0; shelf < 6; shelf++) {
            x.setShelf(shelf, 30, 7);
        }
        x.addRecord(3, 3);
        int[] places = {2, 3, 4, 1, 5, 6};
        for (int shelf = 0; shelf < 6; shelf++) {
            x.misplace(0, shelf);
            CHECK.equal("all are equal, on " + shelf, x.walkTo(0), 7 * places[shelf]);
        }
        VaultShelves y = new VaultShelves();
        for (int shelf = 0; shelf < 6; shelf++) {
            y.setShelf(shelf, 30, 60 - 10 * shelf);
        }
        y.addRecord(3, 2);
        int[] due = {40 + 10 + 20 + 30 + 50 + 60, 40 + 10 + 20 + 30 + 50, 40, 40 + 10 + 20 + 30, 40 + 10 + 20, 40 + 10};
        for (int shelf = 0; shelf < 6; shelf++) {
            y.misplace(0, shelf);
            CHECK.equal("the reaches fall, on " + shelf, y.walkTo(0), due[shelf]);
        }
        y.setShelf(4, 30, 30);
        y.misplace(0, 3);
        CHECK.equal("the lesser one of two equal ones", y.walkTo(0), 40 + 10 + 30);
        y.misplace(0, 4);
        CHECK.equal("the greater one of two equal ones", y.walkTo(0), 40 + 10 + 30 + 30);
        y.setShelf(4, 30, 29);
        CHECK.equal("one less comes first", y.walkTo(0), 40 + 10 + 29);
        y.setShelf(4, 30, 31);
        CHECK.equal("one more comes behind", y.walkTo(0), 40 + 10 + 30 + 31);
    }

    private static void searchedOnAnyReaches() {
        CHECK.sentence("The other shelves are searched in ascending order of their reaches");
        int[][] rows = {
            {1, 99, 1, 99, 1, 99}, {99, 1, 99, 1, 99, 1}, {5, 5, 4, 4, 6, 6}, {9, 8, 9, 7, 9, 8}, {50, 50, 50, 1, 1, 1},
            {1, 2, 3, 3, 2, 1}, {99, 99, 99, 99, 99, 99}, {1, 1, 1, 1, 1, 1}, {98, 99, 98, 97, 99, 98},
        };
        for (int[] reaches : rows) {
            for (int home = 0; home < 6; home++) {
                for (int shelf = 0; shelf < 6; shelf++) {
                    VaultShelves x = new VaultShelves();
                    for (int i = 0; i < 6; i++) {
                        x.setShelf(i, 30, reaches[i]);
                    }
                    x.addRecord(3, home);
                    x.misplace(0, shelf);
                    CHECK.equal("from " + home + " to " + shelf, x.call(0), walk(reaches, home, shelf));
                }
            }
        }
    }

    /** As a clerk would walk: each time to the nearest shelf that has not been searched. */
    private static int walk(int[] reaches, int home, int shelf) {
        boolean[] searched = new boolean[6];
        int walk = reaches[home];
        searched[home] = true;
        while (!searched[shelf]) {
            int next = -1;
            for (int i = 5; i >= 0; i--) {
                if (!searched[i] && (next < 0 || reaches[i] <= reaches[next])) {
                    next = i;
                }
            }
            searched[next] = true;
            walk += reaches[next];
        }
        return walk;
    }

    private static void catalogIsCorrected() {
        CHECK.sentence("When a misplaced record has been found, the catalog is corrected: the shelf on which it is "
                + "becomes the one on which it should be.");
        for (int home = 0; home < 6; home++) {
            for (int shelf = 0; shelf < 6; shelf++) {
                VaultShelves x = new VaultShelves();
                x.addRecord(3, home);
                x.addRecord(4, home);
                x.misplace(0, shelf);
                x.misplace(1, shelf);
                x.call(0);
                CHECK.equal("catalog", x.catalog(0), shelf);
                CHECK.equal("the record stays", x.shelfOf(0), shelf);
                CHECK.equal("then the walk is straight", x.walkTo(0), 10 * (shelf + 1));
                CHECK.equal("the other record's catalog stays", x.catalog(1), home);
                CHECK.equal("the other one is misplaced still", x.misplaced(), home == shelf ? 0 : 1);
            }
        }
    }

    private static void promise12RefusesNoSuchRecord() {
        CHECK.sentence("12: Throws `IndexOutOfBoundsException` if there is no such record");
        VaultShelves none = new VaultShelves();
        for (int record : new int[] {-1, 0, 1, Integer.MIN_VALUE, Integer.MAX_VALUE}) {
            CHECK.refused("of none: " + record, none, NO_SUCH, () -> none.call(record));
        }
        VaultShelves full = Vaults.full();
        CHECK.equal("the first", full.call(0), 10);
        CHECK.equal("the last", full.call(15), 40);
        for (int record : new int[] {-1, 16, 17, Integer.MIN_VALUE, Integer.MAX_VALUE}) {
            CHECK.refused("of 16: " + record, full, NO_SUCH, () -> full.call(record));
        }
        full.removeRecord(0);
        CHECK.refused("of 15: 15", full, NO_SUCH, () -> full.call(15));
        CHECK.equal("of 15: 14", full.call(14), 40);
        CHECK.equal("it was the last one before", full.weight(14), 4);
    }

    private static void promise12ReturnsTheLeastAndTheGreatestWalk() {
        CHECK.sentence("12: Returns the walk of the call.");
        VaultShelves x = new VaultShelves();
        x.setShelf(0, 30, 1);
        x.addRecord(1, 0);
        CHECK.equal("the least", x.call(0), 1);
        for (int shelf = 0; shelf < 6; shelf++) {
            x.setShelf(shelf, 30, 99);
        }
        x.misplace(0, 5);
        CHECK.equal("the greatest", x.call(0), 6 * 99);
        CHECK.equal("once more", x.call(0), 99);
        CHECK.equal("the sum", x.walked(), 1 + 6 * 99 + 99);
    }

    private static void promise13RefusesNoSuchRecordOrShelf() {
        CHECK.sentence("13: Throws `IndexOutOfBoundsException` if there is no such record or shelf");
        VaultShelves none = new VaultShelves();
        CHECK.refused("no record at all", none, NO_SUCH, () -> none.misplace(0, 0));
        VaultShelves x = new VaultShelves();
        x.addRecord(2, 0);
        x.addRecord(2, 5);
        for (int record : new int[] {-1, 2, 16, Integer.MIN_VALUE, Integer.MAX_VALUE}) {
            CHECK.refused("record " + record, x, NO_SUCH, () -> x.misplace(record, 3));
        }
        for (int shelf : NO_SHELVES) {
            CHECK.refused("shelf " + shelf, x, NO_SUCH, () -> x.misplace(0, shelf));
            CHECK.refused("neither, with the shelf " + shelf, x, NO_SUCH, () -> x.misplace(2, shelf));
        }
        CHECK.equal("the first record to the last shelf", x.misplace(0, 5), 0);
        CHECK.equal("the last record to the first shelf", x.misplace(1, 0), 5);
        VaultShelves full = Vaults.full();
        CHECK.refused("of 16: 16", full, NO_SUCH, () -> full.misplace(16, 0));
        CHECK.equal("of 16: 15", full.misplace(15, 0), 3);
    }

    private static void promise13RefusesTooLittleRoom() {
        CHECK.sentence("13: Throws `IllegalStateException` if it is another shelf than the one on which the record is, "
                + "and has less free room than the width of the record");
        VaultShelves x = new VaultShelves();
        x.addRecord(10, 0);
        x.addRecord(21, 1);
        x.addRecord(20, 2);
        CHECK.refused("9 for 10", x, NOT_NOW, () -> x.misplace(0, 1));
        CHECK.equal("10 for 10", x.misplace(0, 2), 0);
        x.addRecord(21, 0);
        CHECK.refused("9 for 10, though it should be there", x, NOT_NOW, () -> x.misplace(0, 0));
        x.setShelf(0, 31, 10);
        CHECK.equal("10 for 10, where it should be", x.misplace(0, 0), 2);
        x.addRecord(30, 5);
        CHECK.refused("0 for 10", x, NOT_NOW, () -> x.misplace(0, 5));
        CHECK.equal("30 for 10", x.misplace(0, 3), 0);
    }

    private static void promise13TakesTheShelfOnWhichItIs() {
        CHECK.sentence("if it is another shelf than the one on which the record is");
        VaultShelves x = new VaultShelves();
        x.addRecord(30, 2);
        CHECK.equal("its own full shelf", x.misplace(0, 2), 2);
        CHECK.equal("has the same room", x.free(2), 0);
        CHECK.equal("it is not misplaced", x.misplaced(), 0);
        x.misplace(0, 4);
        x.addRecord(16, 2);
        CHECK.equal("full, and not the one of the catalog", x.misplace(0, 4), 4);
        CHECK.equal("it is misplaced", x.misplaced(), 1);
        CHECK.refused("15 for 30, where it should be", x, NOT_NOW, () -> x.misplace(0, 2));
        CHECK.equal("each one is saved", x.savedStates(), 5);
    }

    private static void promise13DoesNotTellTheCatalog() {
        CHECK.sentence("Puts a record on a shelf without telling the catalog.");
        VaultShelves x = new VaultShelves();
        x.addRecord(5, 4);
        for (int shelf = 0; shelf < 6; shelf++) {
            x.misplace(0, shelf);
            CHECK.equal("it is there", x.shelfOf(0), shelf);
            CHECK.equal("it should be on 4", x.catalog(0), 4);
            CHECK.equal("no call", x.weight(0), 0);
        }
        CHECK.equal("no walk", x.walked(), 0);
    }

    private static void promise13ReturnsTheShelfBefore() {
        CHECK.sentence("Returns the shelf on which it was before.");
        for (int from = 0; from < 6; from++) {
            for (int to = 0; to < 6; to++) {
                VaultShelves x = new VaultShelves();
                x.addRecord(5, (from + 1) % 6);
                x.misplace(0, from);
                CHECK.equal("from " + from + " to " + to, x.misplace(0, to), from);
                CHECK.equal("room of " + to, x.free(to), 25);
                CHECK.equal("room of " + from, x.free(from), from == to ? 25 : 30);
            }
        }
    }

    private static void promise14MonthsFollowOneAnother() {
        CHECK.sentence("for each record, the calls of this month become the calls of the last month, and the calls of "
                + "this month become 0.");
        VaultShelves x = Vaults.full();
        for (int record = 0; record < 16; record++) {
            Check.callOften(x, record, record % 4);
        }
        x.month();
        for (int record = 0; record < 16; record++) {
            CHECK.equal("the last month of " + record, x.weight(record), record % 4);
            x.call(record);
            CHECK.equal("this month begins at 0 for " + record, x.weight(record), 2 + record % 4);
        }
        x.month();
        for (int record = 0; record < 16; record++) {
            CHECK.equal("the month before is gone for " + record, x.weight(record), 1);
        }
        x.month();
        for (int record = 0; record < 16; record++) {
            CHECK.equal("no call is left for " + record, x.weight(record), 0);
        }
    }

    private static void promise14ReturnsTheCallsOfTheMonth() {
        CHECK.sentence("Returns the number of calls of all records in the month that has ended.");
        VaultShelves x = new VaultShelves();
        CHECK.equal("without records", x.month(), 0);
        CHECK.equal("it is saved", x.savedStates(), 1);
        x.addRecord(1, 0);
        CHECK.equal("without calls", x.month(), 0);
        x.call(0);
        CHECK.equal("one call", x.month(), 1);
        CHECK.equal("those of the last month do not count", x.month(), 0);
        VaultShelves full = Vaults.full();
        for (int record = 0; record < 16; record++) {
            Check.callOften(full, record, 2);
        }
        CHECK.equal("all 16 records", full.month(), 32);
        full.call(0);
        full.call(15);
        full.removeRecord(0);
        CHECK.equal("without a removed one", full.month(), 1);
        Check.callOften(full, 3, 2);
        full.undo();
        CHECK.equal("without what is undone", full.month(), 1);
    }

    private static void promise15FromNoneTo16() {
        CHECK.sentence("Returns the number of records that are misplaced.");
        VaultShelves x = Vaults.full();
        CHECK.equal("none of 16", x.misplaced(), 0);
        for (int record = 0; record < 16; record++) {
            x.misplace(record, (record + 1) % 6);
            CHECK.equal("up to " + record, x.misplaced(), record + 1);
        }
        CHECK.equal("night work finds none of them", x.night(20), 0);
        CHECK.equal("all of 16", x.misplaced(), 16);
        x.removeRecord(15);
        CHECK.equal("but for a removed one", x.misplaced(), 15);
        x.addRecord(1, 0);
        CHECK.equal("a new one is where it should be", x.misplaced(), 15);
        x.removeRecord(15);
        for (int record = 0; record < 15; record++) {
            x.call(record);
            CHECK.equal("found up to " + record, x.misplaced(), 14 - record);
        }
        CHECK.equal("of none", new VaultShelves().misplaced(), 0);
    }

    private static void promise16SumsAllWalks() {
        CHECK.sentence("Returns the sum of the walks of all calls so far.");
        VaultShelves x = new VaultShelves();
        CHECK.equal("no call", x.walked(), 0);
        x.addRecord(5, 5);
        CHECK.equal("a record is no call", x.walked(), 0);
        x.call(0);
        CHECK.equal("one call", x.walked(), 60);
        x.misplace(0, 0);
        x.call(0);
        CHECK.equal("with its search", x.walked(), 60 + 70);
        Check.write(x, "call0;call0;call1");
        x.run();
        CHECK.equal("those of orders, too", x.walked(), 60 + 70 + 10 + 10);
        x.setShelf(0, 30, 99);
        CHECK.equal("by the reach of their time", x.walked(), 150);
        x.removeRecord(0);
        CHECK.equal("also of a removed record", x.walked(), 150);
        x.undo();
        x.undo();
        x.undo();
        CHECK.equal("undone ones are none", x.walked(), 130);
        CHECK.refused("nor refused ones", x, NO_SUCH, () -> x.call(1));
    }
}
