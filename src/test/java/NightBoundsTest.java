/** Each sentence about a bound under "Night work" and the promises 17 to 19. */
final class NightBoundsTest {
    private static final Class<?> WRONG = IllegalArgumentException.class;
    private static final int[] NO_STEPS = {0, 21, -1, -20, 22, 99, Integer.MIN_VALUE, Integer.MAX_VALUE};
    private static final Check CHECK = new Check("NightBoundsTest");

    public static void main(String[] args) {
        misplacedRecordsDoNotMove();
        misplacedRecordsAreNotExchanged();
        misplacedRecordsTakeRoom();
        moveNeedsRoom();
        moveGain();
        exchangeNeedsOtherShelves();
        exchangeNeedsRoomForTheWiderOne();
        exchangeUsesTheFreeRoom();
        exchangeGain();
        catalogFollows();
        greatestGainFirst();
        movesBeforeExchanges();
        amongMoves();
        amongExchanges();
        gainOfAtLeast1();
        promise17AtMostSoManySteps();
        promise17RefusesStepsOutOfRange();
        promise17ReturnsTheStepsThatAreMade();
        promise18ReturnsTheCost();
        promise19CountsAllNightWork();
        CHECK.end();
    }

    /** All shelves but these two are full with records of the width 10: the numbers 0 to 3. */
    private static VaultShelves twoShelves(int near, int far) {
        VaultShelves x = new VaultShelves();
        for (int shelf = 0; shelf < 6; shelf++) {
            if (shelf != near && shelf != far) {
                x.setShelf(shelf, 10, 99);
                x.addRecord(10, shelf);
            }
        }
        return x;
    }

    /** On the shelf 0 a record of this width that is not called, and on the shelf 5 one that is called once. */
    private static VaultShelves pair(boolean calledFirst, int coldWidth, int calledWidth) {
        VaultShelves x = twoShelves(0, 5);
        if (calledFirst) {
            x.addRecord(calledWidth, 5);
            x.addRecord(coldWidth, 0);
            x.call(4);
        } else {
            x.addRecord(coldWidth, 0);
            x.addRecord(calledWidth, 5);
            x.call(5);
        }
        return x;
    }

    private static void misplacedRecordsDoNotMove() {
        CHECK.sentence("Only records that are not misplaced take part in it.");
        VaultShelves x = new VaultShelves();
        x.addRecord(5, 5);
        x.call(0);
        CHECK.equal("it would move", x.bestGain(), 100);
        x.misplace(0, 4);
        CHECK.equal("misplaced, it would not", x.bestGain(), 0);
        CHECK.equal("and does not", x.night(20), 0);
        CHECK.equal("it stays where it is", x.shelfOf(0), 4);
        CHECK.equal("and should be where it should be", x.catalog(0), 5);
        x.misplace(0, 5);
        CHECK.equal("back again, it moves", x.night(20), 1);
        x.setShelf(0, 30, 70);
        x.misplace(0, 3);
        x.call(0);
        CHECK.equal("found, it moves", x.night(20), 1);
        CHECK.equal("to the nearest one", x.shelfOf(0), 1);
    }

    private static void misplacedRecordsAreNotExchanged() {
        CHECK.sentence("Only records that are not misplaced take part in it.");
        VaultShelves x = pair(false, 30, 30);
        CHECK.equal("they would be exchanged", x.bestGain(), 100);
        for (boolean calledFirst : new boolean[] {false, true}) {
            VaultShelves y = pair(calledFirst, 20, 20);
            int cold = calledFirst ? 5 : 4;
            y.setShelf(1, 30, 5);
            y.misplace(cold, 1);
            y.setShelf(0, 19, 10);
            CHECK.equal("misplaced on a nearer shelf, it is not", y.night(20), 0);
            y.setShelf(0, 30, 10);
            y.addRecord(20, 0);
            CHECK.equal("another one is, for less", y.night(20), 1);
            CHECK.equal("that one alone", Vaults.shelves(y), calledFirst ? "1234015" : "1234105");
            CHECK.equal("the misplaced one should be where it should be", Vaults.catalogs(y), "1234005");
            VaultShelves z = pair(calledFirst, 20, 20);
            int called = calledFirst ? 4 : 5;
            z.setShelf(1, 30, 99);
            z.misplace(called, 1);
            z.setShelf(0, 20, 10);
            CHECK.equal("misplaced on a farther shelf, the called one is not", z.night(20), 0);
            z.call(called);
            CHECK.equal("found there, it is", z.night(20), 1);
        }
    }

    private static void misplacedRecordsTakeRoom() {
        CHECK.sentence("(also of misplaced ones)");
        VaultShelves x = new VaultShelves();
        x.addRecord(10, 1);
        x.addRecord(21, 3);
        x.misplace(1, 0);
        x.call(0);
        CHECK.equal("9 for 10, though none should be there", x.night(20), 0);
        x.setShelf(0, 31, 10);
        CHECK.equal("10 for 10", x.night(20), 1);
        CHECK.equal("beside the misplaced one", Vaults.shelves(x), "00");
    }

    private static void moveNeedsRoom() {
        CHECK.sentence("A move brings a record to another shelf, if the free room of this shelf is at least the width "
                + "of the record.");
        VaultShelves x = new VaultShelves();
        x.addRecord(15, 0);
        x.addRecord(16, 1);
        x.call(0);
        x.call(1);
        CHECK.equal("15 for 16: no step is left", x.night(20), 0);
        CHECK.equal("both stay", Vaults.shelves(x), "01");
        x.setShelf(0, 31, 10);
        CHECK.equal("16 for 16", x.night(20), 1);
        CHECK.equal("both are on 0", Vaults.shelves(x), "00");
        CHECK.equal("which is full", x.free(0), 0);
        VaultShelves widest = new VaultShelves();
        widest.addRecord(30, 1);
        widest.call(0);
        widest.setShelf(0, 29, 10);
        CHECK.equal("29 for 30", widest.night(20), 0);
        widest.setShelf(0, 30, 10);
        CHECK.equal("30 for 30", widest.night(20), 1);
    }

    private static void moveGain() {
        CHECK.sentence("Its gain is the weight of the record multiplied by (reach of its shelf minus reach of the other "
                + "shelf).");
        VaultShelves x = new VaultShelves();
        x.addRecord(5, 5);
        for (int shelf = 0; shelf < 5; shelf++) {
            x.setShelf(shelf, 30, 99);
        }
        x.setShelf(3, 30, 59);
        CHECK.equal("no weight", x.bestGain(), 0);
        x.call(0);
        CHECK.equal("2 by 1", x.bestGain(), 2);
        x.month();
        CHECK.equal("1 by 1", x.bestGain(), 1);
        x.setShelf(3, 30, 60);
        CHECK.equal("1 by 0", x.bestGain(), 0);
        x.setShelf(3, 30, 61);
        CHECK.equal("1 by -1", x.bestGain(), 0);
        x.setShelf(3, 30, 1);
        x.setShelf(5, 30, 99);
        x.call(0);
        CHECK.equal("3 by the greatest difference", x.bestGain(), 3 * 98);
        int cost = x.cost();
        CHECK.equal("is made", x.night(1), 1);
        CHECK.equal("so much is gained", x.cost(), cost - 3 * 98);
    }

    private static void exchangeNeedsOtherShelves() {
        CHECK.sentence("An exchange brings two records that are on different shelves each to the shelf of the other "
                + "one");
        VaultShelves x = twoShelves(0, 5);
        x.setShelf(5, 60, 60);
        x.addRecord(30, 5);
        x.addRecord(30, 5);
        x.setShelf(0, 29, 10);
        x.call(4);
        CHECK.equal("on one shelf", x.night(20), 0);
        VaultShelves y = pair(false, 30, 30);
        CHECK.equal("on two shelves", y.night(20), 1);
        CHECK.equal("each is on the other's shelf", Vaults.shelves(y), "123450");
    }

    private static void exchangeNeedsRoomForTheWiderOne() {
        CHECK.sentence("the free room plus the width of the record that leaves is at least the width of the one that "
                + "comes.");
        for (boolean calledFirst : new boolean[] {false, true}) {
            String who = calledFirst ? ", the called one is the first" : ", the called one is the second";
            VaultShelves near = pair(calledFirst, 20, 25);
            near.setShelf(0, 24, 10);
            CHECK.equal("24 near for 25" + who, near.night(20), 0);
            near.setShelf(0, 25, 10);
            CHECK.equal("25 near for 25" + who, near.night(20), 1);
            CHECK.equal("both have changed" + who, Vaults.shelves(near), calledFirst ? "123405" : "123450");
            CHECK.equal("near is full" + who, near.free(0), 0);
            VaultShelves far = pair(calledFirst, 25, 20);
            far.setShelf(5, 24, 60);
            CHECK.equal("24 far for 25" + who, far.night(20), 0);
            far.setShelf(5, 25, 60);
            CHECK.equal("25 far for 25" + who, far.night(20), 1);
            CHECK.equal("both have changed too" + who, Vaults.shelves(far), calledFirst ? "123405" : "123450");
            CHECK.equal("far is full" + who, far.free(5), 0);
        }
    }

    private static void exchangeUsesTheFreeRoom() {
        CHECK.sentence("if both shelves have room for this");
        VaultShelves x = pair(false, 12, 21);
        x.addRecord(10, 0);
        CHECK.equal("8 + 12 for 21, and 8 + 10 for 21", x.bestGain(), 0);
        x.setShelf(0, 31, 10);
        CHECK.equal("9 + 12 for 21", x.night(1), 1);
        CHECK.equal("not the one of 10", Vaults.shelves(x), "1234500");
        CHECK.equal("nothing is free", x.free(0), 0);
        VaultShelves y = pair(true, 30, 18);
        y.addRecord(1, 5);
        y.setShelf(5, 30, 60);
        CHECK.equal("11 + 18 for 30", y.night(20), 0);
        y.setShelf(5, 31, 60);
        CHECK.equal("12 + 18 for 30", y.night(20), 1);
        CHECK.equal("nothing is free there", y.free(5), 0);
    }

    private static void exchangeGain() {
        CHECK.sentence("Its gain is (weight of the first record minus weight of the second one) multiplied by (reach of "
                + "the shelf of the first record minus reach of the shelf of the second one); the first record is the "
                + "one with the lesser number.");
        for (boolean calledFirst : new boolean[] {false, true}) {
            VaultShelves x = pair(calledFirst, 30, 30);
            CHECK.equal("2 by 50", x.bestGain(), 2 * 50);
            x.call(calledFirst ? 5 : 4);
            CHECK.equal("equal weights", x.bestGain(), 0);
            x.call(calledFirst ? 5 : 4);
            CHECK.equal("the nearer one is more frequent", x.bestGain(), 0);
            x.setShelf(0, 30, 61);
            CHECK.equal("now it is farther, by 1", x.bestGain(), 2);
            x.setShelf(0, 30, 60);
            CHECK.equal("equal reaches", x.bestGain(), 0);
            x.setShelf(0, 30, 99);
            x.setShelf(5, 30, 1);
            CHECK.equal("the greatest difference", x.bestGain(), 2 * 98);
            int cost = x.cost();
            x.night(20);
            CHECK.equal("so much is gained", x.cost(), cost - 2 * 98);
        }
    }

    private static void catalogFollows() {
        CHECK.sentence("Moved and exchanged records should then be, by the catalog, where they are.");
        VaultShelves x = new VaultShelves();
        x.addRecord(5, 5);
        x.call(0);
        x.night(1);
        CHECK.equal("moved", x.catalog(0), 0);
        CHECK.equal("not misplaced", x.misplaced(), 0);
        CHECK.equal("a straight walk", x.walkTo(0), 10);
        VaultShelves y = pair(false, 30, 30);
        y.night(1);
        CHECK.equal("exchanged", Vaults.catalogs(y), "123450");
        CHECK.equal("neither is misplaced", y.misplaced(), 0);
        CHECK.equal("nor searched for", y.walkTo(5), 10);
    }

    private static void greatestGainFirst() {
        CHECK.sentence("The best step is the one with the greatest gain.");
        // The records 0 and 1 of the width 30 could be exchanged for 2 by 10; the record 2 could move to the shelf 2.
        VaultShelves x = moveAndExchange();
        x.setShelf(2, 10, 31);
        CHECK.equal("a move of 18 and an exchange of 20", x.bestGain(), 20);
        x.night(1);
        CHECK.equal("the exchange", Vaults.shelves(x), "103");
        VaultShelves y = moveAndExchange();
        y.setShelf(2, 10, 29);
        CHECK.equal("a move of 22 and an exchange of 20", y.bestGain(), 22);
        y.night(1);
        CHECK.equal("the move", Vaults.shelves(y), "012");
    }

    private static void movesBeforeExchanges() {
        CHECK.sentence("Among several steps with this gain, moves come before exchanges");
        VaultShelves x = moveAndExchange();
        CHECK.equal("a move of 20 and an exchange of 20", x.bestGain(), 20);
        x.night(1);
        CHECK.equal("the move, though its record has the greatest number", Vaults.shelves(x), "012");
        x.night(1);
        CHECK.equal("then the exchange", Vaults.shelves(x), "102");
        CHECK.equal("then none", x.night(20), 0);
    }

    private static VaultShelves moveAndExchange() {
        VaultShelves x = new VaultShelves();
        x.addRecord(30, 0);
        x.addRecord(30, 1);
        x.addRecord(5, 3);
        x.setShelf(2, 10, 30);
        x.setShelf(3, 10, 40);
        x.call(1);
        x.call(2);
        return x;
    }

    private static void amongMoves() {
        CHECK.sentence("among moves, the one of the record with the least number, and then the one to the shelf with "
                + "the least number");
        VaultShelves x = new VaultShelves();
        int[] rooms = {30, 10, 30, 30, 30, 30};
        int[] reaches = {60, 20, 50, 50, 20, 60};
        for (int shelf = 0; shelf < 6; shelf++) {
            x.setShelf(shelf, rooms[shelf], reaches[shelf]);
        }
        x.addRecord(20, 2);
        x.addRecord(5, 3);
        x.call(1);
        x.call(0);
        x.night(1);
        CHECK.equal("the least record, though only to the shelf 4", Vaults.shelves(x), "43");
        x.night(1);
        CHECK.equal("the least shelf", Vaults.shelves(x), "41");
        VaultShelves y = new VaultShelves();
        for (int shelf = 0; shelf < 5; shelf++) {
            y.setShelf(shelf, 30, 10);
        }
        y.addRecord(30, 5);
        y.addRecord(30, 0);
        y.call(0);
        y.night(1);
        CHECK.equal("the least of four shelves, the shelf 0 being full", Vaults.shelves(y), "10");
    }

    private static void amongExchanges() {
        CHECK.sentence("among exchanges, the one whose first record has the least number, and then the one whose second "
                + "record has the least number.");
        VaultShelves x = fourToExchange(20);
        CHECK.equal("one gain for four", x.bestGain(), 2 * 50);
        x.night(1);
        CHECK.equal("0 and 2", Vaults.shelves(x), "410523");
        x.night(1);
        CHECK.equal("1 and 3", Vaults.shelves(x), "450123");
        CHECK.equal("that is all", x.night(20), 0);
        VaultShelves y = fourToExchange(25);
        CHECK.equal("one gain for three", y.bestGain(), 2 * 50);
        y.night(1);
        CHECK.equal("0 and 3, for 2 is too wide", Vaults.shelves(y), "514023");
        y.night(1);
        CHECK.equal("1 and 2", Vaults.shelves(y), "541023");
        CHECK.equal("that is all of them", y.night(20), 0);
    }

    /** The records 0 and 1 are near and not called, 2 and 3 are far and called; the shelf of 0 has a room of 20. */
    private static VaultShelves fourToExchange(int widthOf2) {
        VaultShelves x = new VaultShelves();
        int[] rooms = {20, 30, 10, 10, 30, 20};
        int[] reaches = {10, 10, 99, 99, 60, 60};
        int[] widths = {20, 20, widthOf2, 20, 10, 10};
        int[] shelves = {0, 1, 4, 5, 2, 3};
        for (int shelf = 0; shelf < 6; shelf++) {
            x.setShelf(shelf, rooms[shelf], reaches[shelf]);
        }
        for (int record = 0; record < 6; record++) {
            x.addRecord(widths[record], shelves[record]);
        }
        x.call(3);
        x.call(2);
        return x;
    }

    private static void gainOfAtLeast1() {
        CHECK.sentence("A step is only made if its gain is at least 1.");
        VaultShelves move = new VaultShelves();
        move.addRecord(5, 0);
        move.call(0);
        move.month();
        CHECK.equal("a move of -10", move.night(20), 0);
        move.setShelf(5, 30, 10);
        CHECK.equal("a move of 0", move.night(20), 0);
        move.setShelf(5, 30, 9);
        CHECK.equal("a move of 1", move.night(20), 1);
        CHECK.equal("is made", Vaults.shelves(move), "5");
        VaultShelves exchange = pair(false, 30, 30);
        exchange.month();
        exchange.setShelf(0, 30, 61);
        CHECK.equal("an exchange of -1", exchange.night(20), 0);
        exchange.setShelf(0, 30, 60);
        CHECK.equal("an exchange of 0", exchange.night(20), 0);
        exchange.setShelf(0, 30, 59);
        CHECK.equal("an exchange of 1", exchange.night(20), 1);
        CHECK.equal("is made, too", Vaults.shelves(exchange), "123450");
        VaultShelves cold = new VaultShelves();
        cold.addRecord(5, 5);
        CHECK.equal("without a call", cold.night(20), 0);
    }

    private static void promise17AtMostSoManySteps() {
        CHECK.sentence("as long as there is a step with a gain of at least 1, but at most so many steps.");
        VaultShelves x = Vaults.longNights();
        CHECK.equal("20 of 22 steps", x.night(20), 20);
        CHECK.equal("a step is left", x.bestGain() > 0 ? 1 : 0, 1);
        CHECK.equal("and another", x.night(1), 1);
        CHECK.equal("and the last one", x.night(20), 1);
        CHECK.equal("no step is left", x.bestGain(), 0);
        CHECK.equal("22 in all", x.steps(), 22);
        for (int steps = 1; steps <= 20; steps++) {
            VaultShelves y = Vaults.longNights();
            CHECK.equal("as many as asked for", y.night(steps), steps);
            VaultShelves z = Vaults.longNights();
            for (int step = 0; step < steps; step++) {
                z.night(1);
            }
            CHECK.equal("as so many nights of one step", y.digest(), z.digest());
        }
    }

    private static void promise17RefusesStepsOutOfRange() {
        CHECK.sentence("17: Throws `IllegalArgumentException` if steps is out of range");
        VaultShelves x = new VaultShelves();
        for (int steps : NO_STEPS) {
            CHECK.refused("nothing to do, " + steps, x, WRONG, () -> x.night(steps));
        }
        x.addRecord(5, 5);
        x.call(0);
        for (int steps : NO_STEPS) {
            CHECK.refused("a step to make, " + steps, x, WRONG, () -> x.night(steps));
        }
        CHECK.equal("the least", x.night(1), 1);
        x.undo();
        CHECK.equal("the greatest", x.night(20), 1);
    }

    private static void promise17ReturnsTheStepsThatAreMade() {
        CHECK.sentence("17: Returns the number of steps that are made.");
        VaultShelves x = new VaultShelves();
        CHECK.equal("without records", x.night(1), 0);
        CHECK.equal("saved even so", x.savedStates(), 1);
        x.addRecord(30, 5);
        x.addRecord(30, 4);
        CHECK.equal("without calls", x.night(20), 0);
        x.call(0);
        x.call(1);
        CHECK.equal("one of two", x.night(1), 1);
        x.undo();
        CHECK.equal("two of two", x.night(2), 2);
        x.undo();
        CHECK.equal("two of three", x.night(3), 2);
        CHECK.equal("none is left", x.night(1), 0);
        CHECK.equal("cost", x.cost(), 2 * 10 + 2 * 20);
    }

    private static void promise18ReturnsTheCost() {
        CHECK.sentence("18: Returns the cost of the vault.");
        VaultShelves x = new VaultShelves();
        CHECK.equal("empty", x.cost(), 0);
        x.addRecord(1, 0);
        CHECK.equal("without calls", x.cost(), 0);
        x.call(0);
        CHECK.equal("one call", x.cost(), 20);
        x.month();
        CHECK.equal("of the last month", x.cost(), 10);
        x.month();
        CHECK.equal("of the month before", x.cost(), 0);
        VaultShelves full = new VaultShelves();
        for (int shelf = 0; shelf < 6; shelf++) {
            full.setShelf(shelf, 30, 99);
        }
        for (int record = 0; record < 16; record++) {
            full.addRecord(1, record % 6);
            Check.callOften(full, record, 20);
        }
        CHECK.equal("16 records, 20 calls each, the greatest reach", full.cost(), 16 * 40 * 99);
        full.removeRecord(0);
        CHECK.equal("15 records", full.cost(), 15 * 40 * 99);
    }

    private static void promise19CountsAllNightWork() {
        CHECK.sentence("19: Returns the number of steps of all night work so far.");
        VaultShelves x = new VaultShelves();
        CHECK.equal("none", x.steps(), 0);
        x.night(20);
        CHECK.equal("none is made", x.steps(), 0);
        x.addRecord(30, 5);
        x.addRecord(30, 4);
        x.call(0);
        x.call(1);
        x.costAfterNight(20);
        CHECK.equal("a forecast makes none", x.steps(), 0);
        x.night(1);
        CHECK.equal("one", x.steps(), 1);
        Check.write(x, "night20;night1");
        x.run();
        CHECK.equal("those of orders, too", x.steps(), 2);
        CHECK.refused("not refused ones", x, WRONG, () -> x.night(21));
        x.undo();
        CHECK.equal("not undone ones", x.steps(), 1);
        x.removeRecord(0);
        x.removeRecord(0);
        CHECK.equal("also those of removed records", x.steps(), 1);
        VaultShelves pair = pair(false, 30, 30);
        pair.night(20);
        CHECK.equal("an exchange is one step", pair.steps(), 1);
    }
}
