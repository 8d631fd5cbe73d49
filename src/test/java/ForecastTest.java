/** Promises 20 to 25: forecasts, which change nothing. */
final class ForecastTest {
    private static final Class<?> NO_SUCH = IndexOutOfBoundsException.class;
    private static final Class<?> WRONG = IllegalArgumentException.class;
    private static final Check CHECK = new Check("ForecastTest");

    public static void main(String[] args) {
        promise20Reason();
        promise20FirstReason();
        promise20Refusals();
        promise21BestGain();
        promise22CostAfterNight();
        promise23WalkTo();
        promise24ShelfFor();
        promise25Fullness();
        forecastsChangeNothing();
        CHECK.end();
    }

    private static void promise20Reason() {
        VaultShelves x = new VaultShelves();
        x.addRecord(10, 2);
        x.addRecord(21, 0);
        CHECK.equal("20: no weight, no gain", x.reason(0, 1), 4);
        x.call(0);
        CHECK.equal("20: can be moved", x.reason(0, 1), 0);
        CHECK.equal("20: on this shelf", x.reason(0, 2), 2);
        CHECK.equal("20: too little room", x.reason(0, 0), 3);
        CHECK.equal("20: to a greater reach", x.reason(0, 3), 4);
        x.setShelf(3, 30, 30);
        CHECK.equal("20: to an equal reach", x.reason(0, 3), 4);
        x.setShelf(3, 30, 29);
        x.month();
        CHECK.equal("20: a gain of 1", x.reason(0, 3), 0);
        x.setShelf(0, 31, 10);
        CHECK.equal("20: just room enough", x.reason(0, 0), 0);
        x.misplace(0, 3);
        CHECK.equal("20: misplaced", x.reason(0, 1), 1);
    }

    private static void promise20FirstReason() {
        VaultShelves x = new VaultShelves();
        x.addRecord(20, 1);
        x.addRecord(30, 5);
        x.misplace(0, 3);
        CHECK.equal("20: misplaced before on this shelf", x.reason(0, 3), 1);
        CHECK.equal("20: misplaced before too little room", x.reason(0, 5), 1);
        CHECK.equal("20: misplaced before no gain", x.reason(0, 4), 1);
        x.call(0);
        CHECK.equal("20: on this shelf before too little room", x.reason(0, 3), 2);
        CHECK.equal("20: too little room before no gain", x.reason(0, 5), 3);
    }

    private static void promise20Refusals() {
        VaultShelves x = new VaultShelves();
        x.addRecord(20, 1);
        CHECK.refused("20: record -1", x, NO_SUCH, () -> x.reason(-1, 0));
        CHECK.refused("20: record 1", x, NO_SUCH, () -> x.reason(1, 0));
        CHECK.refused("20: shelf -1", x, NO_SUCH, () -> x.reason(0, -1));
        CHECK.refused("20: shelf 6", x, NO_SUCH, () -> x.reason(0, 6));
        x.misplace(0, 2);
        CHECK.refused("20: shelf before misplaced", x, NO_SUCH, () -> x.reason(0, 6));
    }

    private static void promise21BestGain() {
        VaultShelves x = new VaultShelves();
        CHECK.equal("21: no records", x.bestGain(), 0);
        x.addRecord(10, 0);
        x.call(0);
        CHECK.equal("21: already nearest", x.bestGain(), 0);
        x.addRecord(25, 3);
        x.call(1);
        x.call(1);
        CHECK.equal("21: a move", x.bestGain(), 4 * 20);
        x.setShelf(1, 10, 20);
        x.setShelf(2, 10, 30);
        CHECK.equal("21: an exchange", x.bestGain(), (4 - 2) * 30);
        x.misplace(0, 1);
        CHECK.equal("21: the nearest is empty", x.bestGain(), 4 * 30);
        x.misplace(1, 0);
        CHECK.equal("21: all are misplaced", x.bestGain(), 0);
    }

    private static void promise22CostAfterNight() {
        VaultShelves x = new VaultShelves();
        CHECK.equal("22: no records", x.costAfterNight(20), 0);
        for (int i = 0; i < 6; i++) {
            x.addRecord(30, i);
            Check.callOften(x, i, i + 1);
        }
        for (int steps = 1; steps <= 20; steps++) {
            int forecast = x.costAfterNight(steps);
            x.night(steps);
            CHECK.equal("22: as after night " + steps, x.cost(), forecast);
            x.undo();
        }
        CHECK.equal("22: one step", x.costAfterNight(1), x.cost() - x.bestGain());
        for (int steps : new int[] {0, -1, 21, Integer.MIN_VALUE, Integer.MAX_VALUE}) {
            CHECK.refused("22: steps " + steps, x, WRONG, () -> x.costAfterNight(steps));
        }
    }

    private static void promise23WalkTo() {
        VaultShelves x = new VaultShelves();
        x.addRecord(10, 1);
        CHECK.equal("23: straight", x.walkTo(0), 20);
        x.misplace(0, 4);
        CHECK.equal("23: searched", x.walkTo(0), 20 + 10 + 30 + 40 + 50);
        x.setShelf(4, 30, 30);
        CHECK.equal("23: equal reaches by number", x.walkTo(0), 20 + 10 + 30 + 30);
        x.setShelf(4, 30, 29);
        CHECK.equal("23: by reach", x.walkTo(0), 20 + 10 + 29);
        CHECK.equal("23: as the call", x.call(0), 59);
        CHECK.refused("23: record -1", x, NO_SUCH, () -> x.walkTo(-1));
        CHECK.refused("23: record 1", x, NO_SUCH, () -> x.walkTo(1));
    }

    private static void promise24ShelfFor() {
        VaultShelves x = new VaultShelves();
        CHECK.equal("24: nearest", x.shelfFor(30), 0);
        x.addRecord(25, 0);
        CHECK.equal("24: just room enough", x.shelfFor(5), 0);
        CHECK.equal("24: too little room", x.shelfFor(6), 1);
        x.setShelf(4, 30, 20);
        CHECK.equal("24: the least number", x.shelfFor(6), 1);
        x.setShelf(4, 30, 19);
        CHECK.equal("24: the least reach", x.shelfFor(6), 4);
        for (int shelf = 1; shelf < 6; shelf++) {
            x.setShelf(shelf, 29, 10);
        }
        CHECK.equal("24: none", x.shelfFor(30), VaultShelves.NONE);
        CHECK.equal("24: not for records alone", x.shelfFor(29), 1);
        for (int i = 0; i < 15; i++) {
            x.addRecord(1, 1 + i % 5);
        }
        CHECK.equal("24: 16 records are no matter", x.shelfFor(1), 0);
        for (int width : new int[] {0, -1, 31, Integer.MIN_VALUE, Integer.MAX_VALUE}) {
            CHECK.refused("24: width " + width, x, WRONG, () -> x.shelfFor(width));
        }
    }

    private static void promise25Fullness() {
        VaultShelves x = new VaultShelves();
        CHECK.equal("25: empty", x.fullness(), 0.0);
        x.addRecord(7, 0);
        CHECK.equal("25: a part", x.fullness(), 7.0 / 180.0);
        x.misplace(0, 3);
        CHECK.equal("25: a misplaced one counts", x.fullness(), 7.0 / 180.0);
        x.setShelf(5, 99, 1);
        CHECK.equal("25: another room", x.fullness(), 7.0 / 249.0);
        VaultShelves full = new VaultShelves();
        for (int shelf = 0; shelf < 6; shelf++) {
            full.addRecord(30, shelf);
        }
        CHECK.equal("25: full", full.fullness(), 1.0);
    }

    private static void forecastsChangeNothing() {
        VaultShelves x = new VaultShelves();
        x.addRecord(10, 5);
        x.addRecord(12, 4);
        x.addRecord(9, 3);
        Check.callOften(x, 0, 2);
        Check.callOften(x, 1, 4);
        x.misplace(2, 1);
        Check.write(x, "night2");
        String before = Check.outside(x);
        x.reason(0, 0);
        x.bestGain();
        x.costAfterNight(20);
        x.walkTo(2);
        x.shelfFor(30);
        x.fullness();
        x.digest();
        CHECK.equal("20 to 25: nothing changes", Check.outside(x), before);
        CHECK.equal("20 to 25: nor the buffer", x.clearText(), 6);
    }
}
