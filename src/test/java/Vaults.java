/** Objects with some calls behind them: one that is called full, busy or long is so at each time in the same way. */
final class Vaults {
    private Vaults() {
    }

    /** 16 records, the first one on the shelf 0, the next one on the shelf 1, and so on; no shelf is full. */
    static VaultShelves full() {
        VaultShelves x = new VaultShelves();
        for (int record = 0; record < 16; record++) {
            x.addRecord(1 + record % 5, record % 6);
        }
        return x;
    }

    /** Night work on it has 22 steps, each with a gain, so that 20 of them are not all. */
    static VaultShelves longNights() {
        VaultShelves x = new VaultShelves();
        int[] rooms = {17, 10, 39, 30, 26, 30};
        int[] reaches = {35, 65, 97, 23, 2, 60};
        for (int shelf = 0; shelf < 6; shelf++) {
            x.setShelf(shelf, rooms[shelf], reaches[shelf]);
        }
        int[] widths = {7, 15, 4, 12, 3, 4, 4, 11, 6, 8, 1, 5, 6, 2, 9, 3};
        int[] shelves = {5, 3, 5, 4, 5, 2, 1, 3, 0, 4, 0, 0, 2, 1, 5, 4};
        int[] calls = {10, 4, 9, 7, 5, 3, 11, 1, 11, 9, 2, 9, 9, 6, 8, 7};
        for (int record = 0; record < 16; record++) {
            x.addRecord(widths[record], shelves[record]);
            Check.callOften(x, record, calls[record]);
        }
        return x;
    }

    /** Six saved states, each one another; calls in both months, a misplaced record, and a text that is complete. */
    static VaultShelves busy() {
        VaultShelves x = new VaultShelves();
        x.addRecord(10, 3);
        x.addRecord(20, 5);
        x.addRecord(30, 2);
        x.addRecord(12, 4);
        Check.callOften(x, 1, 3);
        x.call(0);
        x.month();
        x.call(3);
        x.call(1);
        x.misplace(0, 1);
        x.night(1);
        x.call(2);
        x.setShelf(4, 31, 49);
        Check.write(x, "call1;night2;month");
        return x;
    }

    /** The numbers of the shelves on which the records are, one behind the other. */
    static String shelves(VaultShelves x) {
        StringBuilder text = new StringBuilder();
        for (int record = 0; record < x.records(); record++) {
            text.append(x.shelfOf(record));
        }
        return text.toString();
    }

    /** The numbers of the shelves on which the records should be. */
    static String catalogs(VaultShelves x) {
        StringBuilder text = new StringBuilder();
        for (int record = 0; record < x.records(); record++) {
            text.append(x.catalog(record));
        }
        return text.toString();
    }
}
