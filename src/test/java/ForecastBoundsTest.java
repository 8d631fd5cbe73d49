/** Each sentence about a bound in the promises 20 to 25, the forecasts. */
final class ForecastBoundsTest {
    private static final Class<?> NO_SUCH = IndexOutOfBoundsException.class;
    private static final Class<?> WRONG = IllegalArgumentException.class;
    private static final int[] NO_SHELVES = {-1, 6, 7, -6, 99, Integer.MIN_VALUE, Integer.MAX_VALUE};
    private static final int[] NO_STEPS = {0, 21, -1, -20, 22, 99, Integer.MIN_VALUE, Integer.MAX_VALUE};
    private static final Check CHECK = new Check("ForecastBoundsTest");

    public static void main(String[] args) {
        promise20ReasonForEachShelf();
        promise20FirstReasonThatApplies();
        promise20RoomAndGainAtTheirEnds();
        promise20RefusesNoSuchRecordOrShelf();
        promise21NoStepIs0();
        promise21GainOf1();
        promise22AsNight();
        promise22RefusesStepsOutOfRange();
        promise23LeastAndGreatestWalk();
        promise23RefusesNoSuchRecord();
        promise24WidthAtTheFreeRoom();
        promise24LeastReachThenLeastNumber();
        promise24None();
        promise24RefusesAWidthOutOfRange();
        promise25FromEmptyToFull();
        forecastsChangeNothing();
        CHECK.end();
    }

    private static void promise20ReasonForEachShelf() {
        CHECK.sentence("Returns 0 if it can be moved with a gain of at least 1; otherwise the first reason that applies:");
        VaultShelves x = new VaultShelves();
        x.addRecord(10, 3);
        x.addRecord(21, 1);
        x.addRecord(21, 4);
        x.call(0);
        int[] due = {0, 3, 0, 2, 3, 4};
        for (int shelf = 0; shelf < 6; shelf++) {
            CHECK.equal("to the shelf " + shelf, x.reason(0, shelf), due[shelf]);
        }
        x.misplace(0, 2);
        for (int shelf = 0; shelf < 6; shelf++) {
            CHECK.equal("misplaced, to the shelf " + shelf, x.reason(0, shelf), 1);
        }
        x.call(0);
        int[] found = {0, 3, 2, 4, 3, 4};
        for (int shelf = 0; shelf < 6; shelf++) {
            CHECK.equal("found, to the shelf " + shelf, x.reason(0, shelf), found[shelf]);
        }
    }

    private static void promise20FirstReasonThatApplies() {
        CHECK.sentence("1 the record is misplaced; 2 it is on this shelf; 3 the free room of the shelf is less than its "
                + "width; 4 the gain is less than 1.");
        VaultShelves x = new VaultShelves();
        x.addRecord(20, 0);
        x.addRecord(30, 4);
        CHECK.equal("2 before 3 and 4", x.reason(0, 0), 2);
        CHECK.equal("3 before 4", x.reason(0, 4), 3);
        CHECK.equal("4 alone", x.reason(0, 5), 4);
        x.misplace(0, 1);
        CHECK.equal("1 before 2, 3 and 4", x.reason(0, 1), 1);
        CHECK.equal("1 before 3 and 4", x.reason(0, 4), 1);
        CHECK.equal("1 before 4", x.reason(0, 5), 1);
        CHECK.equal("1, where it should be", x.reason(0, 0), 1);
        VaultShelves y = new VaultShelves();
        y.addRecord(10, 5);
        y.call(0);
        y.misplace(0, 4);
        CHECK.equal("1 before 0", y.reason(0, 0), 1);
        VaultShelves full = new VaultShelves();
        full.addRecord(30, 0);
        CHECK.equal("2 on a full shelf", full.reason(0, 0), 2);
    }

    private static void promise20RoomAndGainAtTheirEnds() {
        CHECK.sentence("3 the free room of the shelf is less than its width; 4 the gain is less than 1.");
        VaultShelves x = new VaultShelves();
        x.addRecord(15, 5);
        x.addRecord(16, 0);
        x.call(0);
        x.month();
        CHECK.equal("14 for 15", x.reason(0, 0), 3);
        x.setShelf(0, 31, 10);
        CHECK.equal("15 for 15", x.reason(0, 0), 0);
        x.setShelf(0, 31, 59);
        CHECK.equal("a gain of 1", x.reason(0, 0), 0);
        x.setShelf(0, 31, 60);
        CHECK.equal("a gain of 0", x.reason(0, 0), 4);
        x.setShelf(0, 31, 61);
        CHECK.equal("a gain of -1", x.reason(0, 0), 4);
        x.month();
        x.setShelf(0, 31, 1);
        CHECK.equal("no weight", x.reason(0, 0), 4);
    }

    private static void promise20RefusesNoSuchRecordOrShelf() {
        CHECK.sentence("20: Throws `IndexOutOfBoundsException` if there is no such record or shelf");
        VaultShelves none = new VaultShelves();
        CHECK.refused("no record at all", none, NO_SUCH, () -> none.reason(0, 0));
        VaultShelves x = Vaults.full();
        for (int record : new int[] {-1, 16, 17, Integer.MIN_VALUE, Integer.MAX_VALUE}) {
            CHECK.refused("record " + record, x, NO_SUCH, () -> x.reason(record, 0));
        }
        for (int shelf : NO_SHELVES) {
            CHECK.refused("shelf " + shelf, x, NO_SUCH, () -> x.reason(0, shelf));
        }
        CHECK.refused("neither", x, NO_SUCH, () -> x.reason(16, 6));
        x.misplace(1, 3);
        CHECK.refused("the shelf, though misplaced is the first reason", x, NO_SUCH, () -> x.reason(1, 6));
        CHECK.equal("the first of both", x.reason(0, 0), 2);
        CHECK.equal("the last of both", x.reason(15, 5), 4);
    }

    private static void promise21NoStepIs0() {
        CHECK.sentence("0 if there is no step with a gain of at least 1.");
        VaultShelves x = new VaultShelves();
        CHECK.equal("no record", x.bestGain(), 0);
        x.addRecord(30, 0);
        CHECK.equal("no call", x.bestGain(), 0);
        x.call(0);
        CHECK.equal("only losses: -20 at the most", x.bestGain(), 0);
        x.setShelf(5, 30, 10);
        CHECK.equal("a gain of 0", x.bestGain(), 0);
        x.misplace(0, 4);
        CHECK.equal("misplaced", x.bestGain(), 0);
        VaultShelves full = new VaultShelves();
        for (int shelf = 0; shelf < 6; shelf++) {
            full.addRecord(30, shelf);
            full.call(shelf);
        }
        CHECK.equal("equal weights on full shelves", full.bestGain(), 0);
    }

    private static void promise21GainOf1() {
        CHECK.sentence("21: Returns the gain of the best step.");
        VaultShelves x = new VaultShelves();
        x.addRecord(30, 0);
        x.call(0);
        x.month();
        x.setShelf(4, 30, 9);
        CHECK.equal("a move of 1", x.bestGain(), 1);
        x.setShelf(3, 30, 8);
        CHECK.equal("a move of 2 beside it", x.bestGain(), 2);
        VaultShelves y = new VaultShelves();
        for (int shelf = 0; shelf < 6; shelf++) {
            y.setShelf(shelf, 30, 50);
            y.addRecord(30, shelf);
        }
        y.call(3);
        y.month();
        y.setShelf(2, 30, 49);
        CHECK.equal("an exchange of 1", y.bestGain(), 1);
        y.setShelf(5, 30, 48);
        CHECK.equal("an exchange of 2 beside it", y.bestGain(), 2);
        CHECK.equal("is the one that is made", y.costAfterNight(1), y.cost() - 2);
    }

    private static void promise22AsNight() {
        CHECK.sentence("Returns the cost after night() with this number of steps.");
        CHECK.equal("without records", new VaultShelves().costAfterNight(1), 0);
        VaultShelves still = new VaultShelves();
        still.addRecord(5, 0);
        still.call(0);
        CHECK.equal("without a step", still.costAfterNight(20), still.cost());
        VaultShelves x = Vaults.longNights();
        int[] after = new int[23];
        after[0] = x.cost();
        for (int step = 1; step <= 22; step++) {
            x.night(1);
            after[step] = x.cost();
            CHECK.equal("each step lowers the cost: " + step, after[step] < after[step - 1] ? 1 : 0, 1);
        }
        VaultShelves y = Vaults.longNights();
        for (int steps = 1; steps <= 20; steps++) {
            CHECK.equal("behind " + steps + " steps", y.costAfterNight(steps), after[steps]);
        }
        y.night(20);
        CHECK.equal("behind all 22", y.costAfterNight(20), after[22]);
        CHECK.equal("behind 21", y.costAfterNight(1), after[21]);
    }

    private static void promise22RefusesStepsOutOfRange() {
        CHECK.sentence("22: Throws `IllegalArgumentException` if steps is out of range");
        VaultShelves none = new VaultShelves();
        VaultShelves x = Vaults.longNights();
        for (int steps : NO_STEPS) {
            CHECK.refused("without records: " + steps, none, WRONG, () -> none.costAfterNight(steps));
            CHECK.refused("steps: " + steps, x, WRONG, () -> x.costAfterNight(steps));
        }
        CHECK.equal("the least", x.costAfterNight(1), x.cost() - x.bestGain());
        CHECK.equal("the greatest", x.costAfterNight(20) < x.costAfterNight(19) ? 1 : 0, 1);
    }

    private static void promise23LeastAndGreatestWalk() {
        CHECK.sentence("23: Predicts the walk of a call.");
        VaultShelves x = new VaultShelves();
        x.setShelf(0, 30, 1);
        x.addRecord(1, 0);
        CHECK.equal("the least", x.walkTo(0), 1);
        for (int shelf = 0; shelf < 6; shelf++) {
            x.setShelf(shelf, 30, 99);
        }
        x.misplace(0, 5);
        CHECK.equal("the greatest", x.walkTo(0), 6 * 99);
        CHECK.equal("no walk so far", x.walked(), 0);
        CHECK.equal("not found by a forecast", x.catalog(0), 0);
        CHECK.equal("no call", x.weight(0), 0);
        CHECK.equal("the same once more", x.walkTo(0), 6 * 99);
        CHECK.equal("and by the call", x.call(0), 6 * 99);
        CHECK.equal("then straight", x.walkTo(0), 99);
    }

    private static void promise23RefusesNoSuchRecord() {
        CHECK.sentence("23: Throws `IndexOutOfBoundsException` if there is no such record");
        VaultShelves none = new VaultShelves();
        for (int record : new int[] {-1, 0, Integer.MIN_VALUE, Integer.MAX_VALUE}) {
            CHECK.refused("of none: " + record, none, NO_SUCH, () -> none.walkTo(record));
        }
        VaultShelves x = Vaults.full();
        for (int record : new int[] {-1, 16, 17, Integer.MIN_VALUE, Integer.MAX_VALUE}) {
            CHECK.refused("of 16: " + record, x, NO_SUCH, () -> x.walkTo(record));
        }
        CHECK.equal("the first", x.walkTo(0), 10);
        CHECK.equal("the last", x.walkTo(15), 40);
        x.removeRecord(2);
        CHECK.refused("of 15: 15", x, NO_SUCH, () -> x.walkTo(15));
    }

    private static void promise24WidthAtTheFreeRoom() {
        CHECK.sentence("Returns the shelf with the least reach among those with enough free room");
        VaultShelves x = new VaultShelves();
        int[] widths = {30, 25, 20, 15, 10, 5};
        for (int shelf = 0; shelf < 6; shelf++) {
            x.addRecord(widths[shelf], shelf);
        }
        for (int width = 1; width <= 25; width++) {
            CHECK.equal("width " + width, x.shelfFor(width), (width + 4) / 5);
        }
        CHECK.equal("26", x.shelfFor(26), VaultShelves.NONE);
        x.misplace(5, 1);
        CHECK.equal("a misplaced one takes the room where it is", x.shelfFor(1), 2);
        CHECK.equal("and leaves it where it should be", x.shelfFor(30), 5);
        x.setShelf(2, 99, 30);
        CHECK.equal("79 for 30", x.shelfFor(30), 2);
        CHECK.equal("the number of records is no matter", Vaults.full().shelfFor(1), 0);
    }

    private static void promise24LeastReachThenLeastNumber() {
        CHECK.sentence("among several such shelves the one with the least number");
        VaultShelves x = new VaultShelves();
        for (int shelf = 0; shelf < 6; shelf++) {
            x.setShelf(shelf, 30, 50);
        }
        for (int shelf = 0; shelf < 6; shelf++) {
            CHECK.equal("all are equal, those before " + shelf + " full", x.shelfFor(1), shelf);
            x.addRecord(30, shelf);
        }
        VaultShelves y = new VaultShelves();
        y.setShelf(5, 30, 10);
        CHECK.equal("two equal ones", y.shelfFor(30), 0);
        y.setShelf(5, 30, 9);
        CHECK.equal("one less", y.shelfFor(30), 5);
        y.setShelf(3, 30, 9);
        CHECK.equal("again two equal ones", y.shelfFor(30), 3);
        y.setShelf(3, 29, 1);
        CHECK.equal("the least one has too little room", y.shelfFor(30), 5);
        CHECK.equal("but enough for less", y.shelfFor(29), 3);
        y.setShelf(0, 30, 1);
        CHECK.equal("the least reach of all, twice", y.shelfFor(1), 0);
    }

    private static void promise24None() {
        CHECK.sentence("NONE if there is none.");
        VaultShelves x = new VaultShelves();
        for (int shelf = 0; shelf < 6; shelf++) {
            x.setShelf(shelf, 29, 10);
        }
        CHECK.equal("29 for 30", x.shelfFor(30), -1);
        CHECK.equal("29 for 29", x.shelfFor(29), 0);
        for (int shelf = 0; shelf < 6; shelf++) {
            x.addRecord(29, shelf);
        }
        for (int width : new int[] {1, 2, 29, 30}) {
            CHECK.equal("all are full, " + width, x.shelfFor(width), -1);
        }
        x.setShelf(5, 30, 60);
        CHECK.equal("1 for 1", x.shelfFor(1), 5);
        CHECK.equal("1 for 2", x.shelfFor(2), -1);
    }

    private static void promise24RefusesAWidthOutOfRange() {
        CHECK.sentence("24: Throws `IllegalArgumentException` if width is out of range");
        VaultShelves x = new VaultShelves();
        x.setShelf(0, 99, 10);
        for (int width : new int[] {0, 31, -1, -30, 99, Integer.MIN_VALUE, Integer.MAX_VALUE}) {
            CHECK.refused("width " + width, x, WRONG, () -> x.shelfFor(width));
        }
        CHECK.equal("the least", x.shelfFor(1), 0);
        CHECK.equal("the greatest", x.shelfFor(30), 0);
    }

    private static void promise25FromEmptyToFull() {
        CHECK.sentence("Returns the sum of the widths of all records, as a double, divided by the sum of the rooms of "
                + "all shelves, as a double.");
        VaultShelves x = new VaultShelves();
        CHECK.equal("empty", x.fullness(), 0.0);
        for (int shelf = 0; shelf < 6; shelf++) {
            x.setShelf(shelf, 10, 10);
            x.addRecord(10, shelf);
        }
        CHECK.equal("full, with the least rooms", x.fullness(), 1.0);
        x.setShelf(0, 11, 10);
        CHECK.equal("full but for 1", x.fullness(), 60.0 / 61.0);
        for (int shelf = 0; shelf < 6; shelf++) {
            x.setShelf(shelf, 99, 10);
        }
        CHECK.equal("the greatest rooms", x.fullness(), 60.0 / 594.0);
        for (int record = 6; record < 16; record++) {
            x.addRecord(30, record % 6);
        }
        CHECK.equal("16 records", x.fullness(), 360.0 / 594.0);
        x.misplace(0, 5);
        CHECK.equal("one of them misplaced", x.fullness(), 360.0 / 594.0);
        VaultShelves y = new VaultShelves();
        y.addRecord(1, 0);
        CHECK.equal("1 of 180, no whole number", y.fullness(), 1.0 / 180.0);
        y.removeRecord(0);
        CHECK.equal("empty again", y.fullness(), 0.0);
    }

    private static void forecastsChangeNothing() {
        CHECK.sentence("forecasts; they change nothing.");
        String before = Check.whole(Vaults::busy, x -> 0);
        CHECK.equal("reason", Check.whole(Vaults::busy, x -> x.reason(0, 0)), before);
        CHECK.equal("bestGain", Check.whole(Vaults::busy, VaultShelves::bestGain), before);
        CHECK.equal("costAfterNight", Check.whole(Vaults::busy, x -> x.costAfterNight(20)), before);
        CHECK.equal("walkTo", Check.whole(Vaults::busy, x -> x.walkTo(3)), before);
        CHECK.equal("shelfFor", Check.whole(Vaults::busy, x -> x.shelfFor(30)), before);
        CHECK.equal("fullness", Check.whole(Vaults::busy, VaultShelves::fullness), before);
        CHECK.equal("firstError", Check.whole(Vaults::busy, VaultShelves::firstError), before);
        CHECK.equal("digest", Check.whole(Vaults::busy, VaultShelves::digest), before);
    }
}
