/** Promises 12 to 16: calls, walks, misplaced records and months. */
final class CallsTest {
    private static final Class<?> NO_SUCH = IndexOutOfBoundsException.class;
    private static final Class<?> NOT_NOW = IllegalStateException.class;
    private static final Check CHECK = new Check("CallsTest");

    public static void main(String[] args) {
        promise12Call();
        promise12SearchInOrderOfReach();
        promise12CatalogIsCorrected();
        promise13Misplace();
        promise13Refusals();
        promise14Month();
        promise15Misplaced();
        promise16Walked();
        CHECK.end();
    }

    private static void promise12Call() {
        VaultShelves x = new VaultShelves();
        x.addRecord(5, 3);
        CHECK.equal("12: walk", x.call(0), 40);
        CHECK.equal("12: weight", x.weight(0), 2);
        CHECK.equal("12: again", x.call(0), 40);
        CHECK.equal("12: weight again", x.weight(0), 4);
        CHECK.equal("12: saved", x.savedStates(), 3);
        CHECK.refused("12: record -1", x, NO_SUCH, () -> x.call(-1));
        CHECK.refused("12: record 1", x, NO_SUCH, () -> x.call(1));
        x.undo();
        CHECK.equal("12: undone", x.weight(0), 2);
        CHECK.equal("12: walked undone", x.walked(), 40);
    }

    private static void promise12SearchInOrderOfReach() {
        VaultShelves x = new VaultShelves();
        x.addRecord(5, 2);
        x.setShelf(4, 30, 5);
        x.setShelf(0, 30, 20);
        // In order: 4 (5), 0 (20), 1 (20), 3 (40), 5 (60), with 2 (30) at the beginning.
        int[] walks = {30 + 5 + 20, 30 + 5 + 20 + 20, 30, 30 + 5 + 20 + 20 + 40, 30 + 5, 30 + 5 + 20 + 20 + 40 + 60};
        for (int shelf = 0; shelf < 6; shelf++) {
            x.misplace(0, shelf);
            CHECK.equal("12: walk to " + shelf, x.call(0), walks[shelf]);
            x.undo();
            CHECK.equal("12: not found again after undo " + shelf, x.catalog(0), 2);
        }
    }

    private static void promise12CatalogIsCorrected() {
        VaultShelves x = new VaultShelves();
        x.addRecord(5, 0);
        x.misplace(0, 1);
        CHECK.equal("12: search", x.call(0), 30);
        CHECK.equal("12: catalog", x.catalog(0), 1);
        CHECK.equal("12: shelf", x.shelfOf(0), 1);
        CHECK.equal("12: no longer misplaced", x.misplaced(), 0);
        CHECK.equal("12: straight now", x.call(0), 20);
        CHECK.equal("12: cost by the new shelf", x.cost(), 4 * 20);
    }

    private static void promise13Misplace() {
        VaultShelves x = new VaultShelves();
        x.addRecord(12, 0);
        CHECK.equal("13: shelf before", x.misplace(0, 4), 0);
        CHECK.equal("13: shelf", x.shelfOf(0), 4);
        CHECK.equal("13: catalog stays", x.catalog(0), 0);
        CHECK.equal("13: room left", x.free(0), 30);
        CHECK.equal("13: room taken", x.free(4), 18);
        CHECK.equal("13: no call", x.weight(0), 0);
        CHECK.equal("13: where it is", x.misplace(0, 4), 4);
        CHECK.equal("13: room the same", x.free(4), 18);
        CHECK.equal("13: saved even so", x.savedStates(), 3);
        CHECK.equal("13: back", x.misplace(0, 0), 4);
        CHECK.equal("13: not misplaced", x.misplaced(), 0);
        x.undo();
        CHECK.equal("13: undone", x.misplaced(), 1);
    }

    private static void promise13Refusals() {
        VaultShelves x = new VaultShelves();
        x.addRecord(20, 0);
        x.addRecord(19, 1);
        CHECK.refused("13: record -1", x, NO_SUCH, () -> x.misplace(-1, 0));
        CHECK.refused("13: record 2", x, NO_SUCH, () -> x.misplace(2, 0));
        CHECK.refused("13: shelf -1", x, NO_SUCH, () -> x.misplace(0, -1));
        CHECK.refused("13: shelf 6", x, NO_SUCH, () -> x.misplace(0, 6));
        CHECK.refused("13: no room", x, NOT_NOW, () -> x.misplace(0, 1));
        CHECK.equal("13: its own shelf, though free room is less", x.misplace(0, 0), 0);
        x.setShelf(1, 39, 20);
        CHECK.equal("13: just room enough", x.misplace(0, 1), 0);
        CHECK.equal("13: where it is, though misplaced and without free room", x.misplace(0, 1), 1);
        x.addRecord(11, 0);
        CHECK.refused("13: no room where it should be", x, NOT_NOW, () -> x.misplace(0, 0));
    }

    private static void promise14Month() {
        VaultShelves x = new VaultShelves();
        CHECK.equal("14: no records", x.month(), 0);
        CHECK.equal("14: saved even so", x.savedStates(), 1);
        x.addRecord(5, 0);
        x.addRecord(5, 1);
        Check.callOften(x, 0, 3);
        Check.callOften(x, 1, 2);
        CHECK.equal("14: calls of all records", x.month(), 5);
        CHECK.equal("14: weight 0", x.weight(0), 3);
        CHECK.equal("14: weight 1", x.weight(1), 2);
        x.call(1);
        CHECK.equal("14: only this month", x.month(), 1);
        CHECK.equal("14: weight 0 is gone", x.weight(0), 0);
        CHECK.equal("14: weight 1 is new", x.weight(1), 1);
        x.undo();
        CHECK.equal("14: undone", x.weight(1), 4);
        Check.callOften(x, 0, 4);
        x.removeRecord(0);
        CHECK.equal("14: a removed record's calls are gone", x.month(), 1);
    }

    private static void promise15Misplaced() {
        VaultShelves x = new VaultShelves();
        x.addRecord(5, 0);
        x.addRecord(5, 1);
        x.addRecord(5, 2);
        CHECK.equal("15: none", x.misplaced(), 0);
        x.misplace(0, 3);
        x.misplace(2, 3);
        CHECK.equal("15: two", x.misplaced(), 2);
        x.misplace(2, 3);
        CHECK.equal("15: still two", x.misplaced(), 2);
        x.call(0);
        CHECK.equal("15: found", x.misplaced(), 1);
    }

    private static void promise16Walked() {
        VaultShelves x = new VaultShelves();
        x.addRecord(5, 0);
        x.addRecord(5, 5);
        x.call(0);
        x.call(1);
        x.misplace(0, 2);
        CHECK.equal("16: a misplacing is no walk", x.walked(), 70);
        x.call(0);
        CHECK.equal("16: with the search", x.walked(), 70 + 10 + 20 + 30);
        x.walkTo(0);
        CHECK.equal("16: a forecast is no walk", x.walked(), 130);
        x.month();
        x.removeRecord(0);
        CHECK.equal("16: stays over months and records", x.walked(), 130);
    }
}
