/** Promises 17 to 19: night work, cost and steps. */
final class NightWorkTest {
    private static final Class<?> WRONG = IllegalArgumentException.class;
    private static final Check CHECK = new Check("NightWorkTest");

    public static void main(String[] args) {
        promise17Steps();
        promise17Refusals();
        promise17MisplacedTakeNoPart();
        promise17TieOfMoves();
        promise17TieOfShelves();
        promise17TieOfMoveAndExchange();
        promise17TieOfExchanges();
        promise17ExchangeNeedsRoom();
        promise17ExchangeNeedsRoomForTheFirst();
        promise17ExchangeOfMisplaced();
        promise17GainOfOne();
        promise17CostNeverRises();
        promise18Cost();
        promise19Steps();
        CHECK.end();
    }

    private static String shelves(VaultShelves x) {
        StringBuilder text = new StringBuilder();
        for (int record = 0; record < x.records(); record++) {
            text.append(x.shelfOf(record));
        }
        return text.toString();
    }

    private static String catalogs(VaultShelves x) {
        StringBuilder text = new StringBuilder();
        for (int record = 0; record < x.records(); record++) {
            text.append(x.catalog(record));
        }
        return text.toString();
    }

    private static void promise17Steps() {
        VaultShelves x = new VaultShelves();
        CHECK.equal("17: no records", x.night(20), 0);
        CHECK.equal("17: saved even so", x.savedStates(), 1);
        x.addRecord(30, 3);
        x.addRecord(30, 4);
        x.addRecord(30, 5);
        x.call(0);
        x.call(1);
        x.call(1);
        x.call(2);
        x.call(2);
        x.call(2);
        CHECK.equal("17: at most one", x.night(1), 1);
        CHECK.equal("17: the greatest gain", shelves(x), "340");
        CHECK.equal("17: catalog too", catalogs(x), "340");
        CHECK.equal("17: at most two", x.night(2), 2);
        CHECK.equal("17: in order", shelves(x), "210");
        CHECK.equal("17: as long as there is a gain", x.night(20), 0);
        x.undo();
        x.undo();
        CHECK.equal("17: undone", shelves(x), "340");
    }

    private static void promise17Refusals() {
        VaultShelves x = new VaultShelves();
        x.addRecord(5, 5);
        x.call(0);
        for (int steps : new int[] {0, -1, 21, Integer.MIN_VALUE, Integer.MAX_VALUE}) {
            CHECK.refused("17: steps " + steps, x, WRONG, () -> x.night(steps));
        }
        CHECK.equal("17: one step", x.night(20), 1);
        CHECK.equal("17: to the nearest", x.shelfOf(0), 0);
    }

    private static void promise17MisplacedTakeNoPart() {
        VaultShelves x = new VaultShelves();
        x.addRecord(30, 5);
        x.addRecord(30, 0);
        x.call(0);
        x.misplace(0, 4);
        CHECK.equal("17: nothing to do", x.night(20), 0);
        CHECK.equal("17: it stays", shelves(x), "40");
        CHECK.equal("17: its catalog stays", catalogs(x), "50");
        x.misplace(0, 5);
        x.misplace(1, 3);
        CHECK.equal("17: the other is misplaced", x.night(20), 1);
        CHECK.equal("17: a move only", shelves(x), "03");
        CHECK.equal("17: the misplaced one's catalog", catalogs(x), "00");
    }

    private static void promise17TieOfMoves() {
        VaultShelves x = new VaultShelves();
        x.addRecord(20, 2);
        x.addRecord(20, 3);
        x.setShelf(3, 30, 30);
        x.call(1);
        x.call(0);
        x.night(1);
        CHECK.equal("17: the least record first", shelves(x), "03");
        VaultShelves y = new VaultShelves();
        y.addRecord(25, 2);
        y.addRecord(5, 3);
        y.setShelf(0, 20, 10);
        y.setShelf(1, 30, 10);
        y.setShelf(3, 30, 30);
        y.call(0);
        y.call(1);
        y.night(1);
        CHECK.equal("17: the least record before the least shelf", shelves(y), "13");
    }

    private static void promise17TieOfShelves() {
        VaultShelves x = new VaultShelves();
        x.addRecord(20, 0);
        x.setShelf(0, 30, 50);
        x.setShelf(3, 30, 7);
        x.setShelf(4, 30, 7);
        x.call(0);
        x.night(1);
        CHECK.equal("17: the least shelf first", shelves(x), "3");
    }

    private static void promise17TieOfMoveAndExchange() {
        VaultShelves x = new VaultShelves();
        x.addRecord(10, 0);
        x.addRecord(10, 1);
        x.call(1);
        CHECK.equal("17: one gain for both", x.bestGain(), 20);
        x.night(1);
        CHECK.equal("17: the move first", shelves(x), "00");
    }

    private static void promise17TieOfExchanges() {
        VaultShelves x = fullShelves(30);
        CHECK.equal("17: one gain for four exchanges", x.bestGain(), 100);
        x.night(1);
        CHECK.equal("17: the least second", shelves(x), "412305");
        x.night(1);
        CHECK.equal("17: then the next", shelves(x), "452301");
        CHECK.equal("17: catalog of both", catalogs(x), "452301");
        CHECK.equal("17: at the end", x.night(20), 0);
        VaultShelves y = fullShelves(20);
        CHECK.equal("17: one gain for two exchanges", y.bestGain(), 100);
        y.night(1);
        CHECK.equal("17: the least first before the least second", shelves(y), "512340");
    }

    /** A record a shelf, two near and two far ones of equal reach; the records 1 and 4 have this width. */
    private static VaultShelves fullShelves(int width) {
        VaultShelves x = new VaultShelves();
        x.setShelf(1, width, 10);
        x.setShelf(4, width, 60);
        for (int shelf = 0; shelf < 6; shelf++) {
            x.addRecord(shelf == 1 || shelf == 4 ? width : 30, shelf);
        }
        x.call(4);
        x.call(5);
        return x;
    }

    private static void promise17ExchangeNeedsRoom() {
        VaultShelves x = new VaultShelves();
        x.addRecord(20, 0);
        x.addRecord(30, 5);
        for (int shelf = 1; shelf < 5; shelf++) {
            x.addRecord(30, shelf);
        }
        x.setShelf(0, 29, 10);
        x.call(1);
        x.night(20);
        CHECK.equal("17: the nearest is too small", shelves(x), "015234");
        x.setShelf(0, 30, 10);
        x.setShelf(1, 30, 20);
        x.night(1);
        CHECK.equal("17: now just room enough", shelves(x), "105234");
        x.setShelf(1, 20, 20);
        x.setShelf(0, 30, 70);
        x.night(20);
        CHECK.equal("17: the shelf of the first is too small", shelves(x), "125034");
    }

    private static void promise17ExchangeNeedsRoomForTheFirst() {
        VaultShelves x = new VaultShelves();
        x.addRecord(30, 5);
        x.addRecord(20, 0);
        for (int shelf = 1; shelf < 5; shelf++) {
            x.addRecord(30, shelf);
            x.setShelf(shelf, 30, 70);
        }
        x.setShelf(0, 29, 10);
        x.call(0);
        CHECK.equal("17: the first does not fit", x.night(20), 0);
        x.setShelf(0, 30, 10);
        CHECK.equal("17: the first just fits", x.night(20), 1);
        CHECK.equal("17: both are exchanged", shelves(x), "051234");
    }

    private static void promise17ExchangeOfMisplaced() {
        VaultShelves x = fullShelves(30);
        x.removeRecord(1);
        x.removeRecord(0);
        x.misplace(3, 0);
        x.setShelf(1, 10, 10);
        x.month();
        x.month();
        // The records 0 to 3 are on the shelves 2, 3, 4 and 0; the last one is misplaced.
        Check.callOften(x, 0, 9);
        CHECK.equal("17: the second is misplaced", x.bestGain(), 0);
        CHECK.equal("17: no step", x.night(20), 0);
    }

    private static void promise17GainOfOne() {
        VaultShelves x = new VaultShelves();
        x.addRecord(5, 0);
        x.setShelf(1, 30, 9);
        x.call(0);
        x.month();
        CHECK.equal("17: a gain of 1", x.bestGain(), 1);
        CHECK.equal("17: is enough", x.night(20), 1);
        CHECK.equal("17: for a step", shelves(x), "1");
    }

    private static void promise17CostNeverRises() {
        VaultShelves x = new VaultShelves();
        for (int i = 0; i < 14; i++) {
            x.addRecord(5 + i % 7, (i * 5 + 3) % 6);
            Check.callOften(x, i, (i * 11) % 5);
        }
        int cost = x.cost();
        int gain = x.bestGain();
        for (int i = 0; i < 20 && gain > 0; i++) {
            CHECK.equal("17: a step with a gain is made", x.night(1), 1);
            CHECK.equal("17: it lowers the cost by its gain", x.cost(), cost - gain);
            cost = x.cost();
            gain = x.bestGain();
        }
        CHECK.equal("17: no more", x.night(20), 0);
    }

    private static void promise18Cost() {
        VaultShelves x = new VaultShelves();
        x.addRecord(5, 1);
        x.addRecord(5, 4);
        x.call(0);
        CHECK.equal("18: weight by reach", x.cost(), 2 * 20);
        x.call(1);
        x.month();
        x.call(1);
        CHECK.equal("18: all records", x.cost(), 20 + 3 * 50);
        x.misplace(1, 0);
        CHECK.equal("18: by the catalog", x.cost(), 20 + 3 * 50);
        x.setShelf(4, 30, 9);
        CHECK.equal("18: another reach", x.cost(), 20 + 3 * 9);
    }

    private static void promise19Steps() {
        VaultShelves x = new VaultShelves();
        x.addRecord(5, 1);
        x.addRecord(5, 4);
        x.call(0);
        x.call(1);
        x.night(1);
        CHECK.equal("19: one", x.steps(), 1);
        x.costAfterNight(5);
        CHECK.equal("19: a forecast is none", x.steps(), 1);
        x.night(5);
        CHECK.equal("19: two", x.steps(), 2);
        x.night(5);
        CHECK.equal("19: no more", x.steps(), 2);
        x.undo();
        x.undo();
        CHECK.equal("19: undone", x.steps(), 1);
    }
}
