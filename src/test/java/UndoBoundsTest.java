import java.math.BigInteger;

/** Each sentence about a bound under "Undo" and the promises 30 to 32. */
final class UndoBoundsTest {
    private static final Class<?> NOT_NOW = IllegalStateException.class;
    private static final Check CHECK = new Check("UndoBoundsTest");

    public static void main(String[] args) {
        stateIsAllButTheBufferAndTheSavedStates();
        stateFromTheFirstToTheLast();
        eachUndoableMethodSaves();
        savesEvenIfNothingChanges();
        noOtherMethodSaves();
        atMost6States();
        theOldestOneIsDiscarded();
        savedAndUndoneInTurns();
        promise30RestoresTheStateThatWasSavedLast();
        promise30ReturnsTheStatesThatAreLeft();
        promise30RefusesIfNoStateIsSaved();
        promise31From0To6();
        promise32StartsAt4424();
        promise32TakesTheValuesInOrder();
        promise32Overflows();
        promise32WithoutTheBufferAndTheSavedStates();
        CHECK.end();
    }

    private static void stateIsAllButTheBufferAndTheSavedStates() {
        CHECK.sentence("The state consists of everything except the buffer and the saved states.");
        VaultShelves x = new VaultShelves();
        x.addRecord(10, 3);
        x.addRecord(7, 5);
        x.call(1);
        x.month();
        x.call(0);
        x.misplace(0, 4);
        String before = state(x);
        Check.Call[] calls = {
            () -> x.setShelf(3, 99, 99), () -> x.addRecord(30, 0), () -> x.removeRecord(0), () -> x.call(0), x::month,
            () -> x.night(20),
        };
        for (Check.Call call : calls) {
            x.append('m');
            call.answer();
        }
        x.clearText();
        Check.write(x, "mox");
        for (int left = 5; left >= 0; left--) {
            CHECK.equal("the saved states are no part of it", x.undo(), left);
        }
        CHECK.equal("all the state", state(x), before);
        CHECK.equal("the buffer is no part of it", x.firstError(), 2);
        CHECK.equal("it stays as it is", x.clearText(), 3);
        CHECK.equal("the calls of this month", x.month(), 1);
        CHECK.equal("and those of the last", x.weight(1), 0);
    }

    private static void stateFromTheFirstToTheLast() {
        CHECK.sentence("The state consists of everything");
        VaultShelves shelves = fullTwoMonths();
        String seen = Check.brief(shelves);
        for (int shelf = 0; shelf < 6; shelf++) {
            shelves.setShelf(shelf, 99 - shelf, 1 + shelf);
            shelves.undo();
            shelves.month();
            shelves.undo();
            shelves.night(1);
            shelves.undo();
            shelves.misplace(shelf, (shelf + 1) % 6);
            shelves.undo();
            CHECK.equal("the shelf " + shelf, Check.brief(shelves), seen);
        }
        for (int record = 0; record < 16; record++) {
            VaultShelves x = fullTwoMonths();
            seen = Check.brief(x);
            x.call(record);
            x.undo();
            x.misplace(record, (record + 2) % 6);
            x.undo();
            CHECK.equal("the record " + record, Check.brief(x), seen);
            x.removeRecord(record);
            x.undo();
            CHECK.equal("removed: " + record, Check.brief(x), seen);
            int weight = 2 * ((record + 2) % 3) + (record + 1) % 5;
            CHECK.equal("weight of " + record, x.weight(record), weight);
            x.month();
            CHECK.equal("its calls of this month: " + record, x.weight(record), (record + 2) % 3);
            x.undo();
            CHECK.equal("and of the last: " + record, x.weight(record), weight);
        }
    }

    /** 16 records, each with its calls of this month and of the last one, the sixteenth too; five saved states. */
    private static VaultShelves fullTwoMonths() {
        VaultShelves x = Vaults.full();
        for (int record = 0; record < 16; record++) {
            Check.callOften(x, record, (record + 1) % 5);
        }
        x.month();
        for (int record = 0; record < 16; record++) {
            Check.callOften(x, record, (record + 2) % 3);
        }
        x.call(0);
        x.undo();
        return x;
    }

    /** What is seen from outside without the last two numbers, which tell of the buffer and of the saved states. */
    private static String state(VaultShelves x) {
        String seen = Check.outside(x);
        return seen.substring(0, seen.lastIndexOf(' ', seen.lastIndexOf(' ') - 1));
    }

    private static void saves(String name, Check.Act act) {
        Check.Maker maker = UndoBoundsTest::oneState;
        VaultShelves x = maker.make();
        act.on(x);
        CHECK.equal(name + " saves a state", x.savedStates(), 2);
        CHECK.equal(name + " is undone", x.undo(), 1);
        CHECK.equal(name + ": as before", Check.outside(x), Check.outside(maker.make()));
        CHECK.equal(name + ": the months", x.month(), maker.make().month());
    }

    /** A record that is called and could be moved, and just one saved state. */
    private static VaultShelves oneState() {
        VaultShelves x = new VaultShelves();
        Check.write(x, "add10@3;add7@5;call0;month;call0;lose1@2");
        x.run();
        return x;
    }

    private static void eachUndoableMethodSaves() {
        CHECK.sentence("Each method that is marked \"Undoable\" saves the state from before the call if it does not throw "
                + "an exception");
        saves("setShelf", x -> x.setShelf(0, 99, 1));
        saves("addRecord", x -> x.addRecord(30, 0));
        saves("removeRecord", x -> x.removeRecord(0));
        saves("call", x -> x.call(1));
        saves("misplace", x -> x.misplace(0, 5));
        saves("month", VaultShelves::month);
        saves("night", x -> x.night(20));
        saves("run", x -> runOf(x, "call1;month;night1;add1@1;lose0@1"));
    }

    private static int runOf(VaultShelves x, String text) {
        Check.write(x, text);
        return x.run();
    }

    private static void savesEvenIfNothingChanges() {
        CHECK.sentence("even if nothing changes.");
        saves("setShelf with the same", x -> x.setShelf(0, 30, 10));
        saves("misplace where it is", x -> x.misplace(1, 2));
        saves("run without an order", x -> runOf(x, "call9"));
        VaultShelves x = new VaultShelves();
        x.month();
        CHECK.equal("month without records", x.savedStates(), 1);
        x.night(1);
        CHECK.equal("night without records", x.savedStates(), 2);
        runOf(x, "month;night1");
        CHECK.equal("run of orders that change nothing", x.savedStates(), 3);
        x.addRecord(5, 0);
        x.call(0);
        CHECK.equal("no step is made", x.night(20), 0);
        CHECK.equal("night without a step", x.savedStates(), 6);
    }

    private static void noOtherMethodSaves() {
        CHECK.sentence("Each method that is marked \"Undoable\" saves the state");
        VaultShelves x = oneState();
        Check.outside(x);
        x.misplaced();
        x.cost();
        x.reason(0, 0);
        x.bestGain();
        x.costAfterNight(20);
        x.walkTo(0);
        x.shelfFor(1);
        x.append('m');
        x.firstError();
        x.clearText();
        CHECK.equal("none of those that are not marked", x.savedStates(), 1);
        Check.outcome(() -> x.setShelf(0, 9, 1));
        Check.outcome(() -> x.addRecord(31, 0));
        Check.outcome(() -> x.removeRecord(2));
        Check.outcome(() -> x.call(2));
        Check.outcome(() -> x.misplace(0, 6));
        Check.outcome(() -> x.night(21));
        Check.outcome(x::run);
        CHECK.equal("nor those that throw", x.savedStates(), 1);
        CHECK.equal("nor undo()", x.undo(), 0);
        CHECK.equal("which takes one away", x.savedStates(), 0);
    }

    private static void atMost6States() {
        CHECK.sentence("At most 6 states are saved");
        VaultShelves x = new VaultShelves();
        for (int record = 0; record < 16; record++) {
            x.addRecord(1, 0);
            CHECK.equal("behind " + (record + 1) + " calls", x.savedStates(), record < 6 ? record + 1 : 6);
        }
        for (int left = 5; left >= 0; left--) {
            x.undo();
            CHECK.equal("left", x.savedStates(), left);
            CHECK.equal("records", x.records(), 10 + left);
        }
        CHECK.refused("the seventh", x, NOT_NOW, x::undo);
    }

    private static void theOldestOneIsDiscarded() {
        CHECK.sentence("when one more is saved, the oldest one is discarded.");
        for (int calls = 1; calls <= 20; calls++) {
            VaultShelves x = new VaultShelves();
            x.setShelf(0, 99, 10);
            x.undo();
            for (int call = 0; call < calls; call++) {
                x.setShelf(0, 30 + call, 11 + call);
            }
            int kept = calls < 6 ? calls : 6;
            for (int undone = 1; undone <= kept; undone++) {
                CHECK.equal("states left", x.undo(), kept - undone);
                CHECK.equal("of " + calls + " calls, " + undone + " undone", x.reach(0), 10 + calls - undone);
                CHECK.equal("and their room", x.free(0), calls == undone ? 30 : 29 + calls - undone);
            }
            CHECK.refused("of " + calls + " calls no more", x, NOT_NOW, x::undo);
        }
    }

    private static void savedAndUndoneInTurns() {
        CHECK.sentence("At most 6 states are saved; when one more is saved, the oldest one is discarded.");
        VaultShelves x = new VaultShelves();
        for (int reach = 11; reach <= 18; reach++) {
            x.setShelf(0, 30, reach);
        }
        // The reaches 12 to 17 are saved, and 18 is now.
        for (int undone = 1; undone <= 3; undone++) {
            CHECK.equal("left", x.undo(), 6 - undone);
        }
        CHECK.equal("three are undone", x.reach(0), 15);
        for (int reach = 41; reach <= 44; reach++) {
            x.setShelf(0, 30, reach);
        }
        CHECK.equal("six again", x.savedStates(), 6);
        int[] due = {43, 42, 41, 15, 14, 13};
        for (int i = 0; i < 6; i++) {
            x.undo();
            CHECK.equal("back by " + (i + 1), x.reach(0), due[i]);
        }
        CHECK.refused("12 is discarded", x, NOT_NOW, x::undo);
        CHECK.equal("and 13 stays", x.reach(0), 13);
    }

    private static void promise30RestoresTheStateThatWasSavedLast() {
        CHECK.sentence("Restores the state that was saved last, and removes it from the saved states.");
        VaultShelves x = new VaultShelves();
        x.addRecord(5, 0);
        x.addRecord(6, 1);
        x.removeRecord(0);
        x.undo();
        CHECK.equal("the removed record is there", x.records(), 2);
        CHECK.equal("with its number", x.width(0), 5);
        CHECK.equal("and the one behind it", x.width(1), 6);
        x.call(1);
        CHECK.equal("a later state is not saved", x.savedStates(), 3);
        x.undo();
        x.undo();
        CHECK.equal("the first state but one", x.records(), 1);
        x.undo();
        CHECK.equal("the first state", x.records(), 0);
        x.addRecord(9, 4);
        x.misplace(0, 5);
        x.undo();
        x.call(0);
        CHECK.equal("another way from there", x.walked(), 50);
        x.undo();
        CHECK.equal("is undone, too", x.walked(), 0);
        CHECK.equal("to the same state", x.shelfOf(0), 4);
    }

    private static void promise30ReturnsTheStatesThatAreLeft() {
        CHECK.sentence("Returns the number of saved states that are left.");
        for (int saved = 1; saved <= 6; saved++) {
            VaultShelves x = new VaultShelves();
            for (int i = 0; i < saved; i++) {
                x.month();
            }
            for (int left = saved - 1; left >= 0; left--) {
                CHECK.equal("of " + saved, x.undo(), left);
            }
        }
        VaultShelves x = new VaultShelves();
        for (int i = 0; i < 7; i++) {
            x.month();
        }
        CHECK.equal("of seven", x.undo(), 5);
    }

    private static void promise30RefusesIfNoStateIsSaved() {
        CHECK.sentence("30: Throws `IllegalStateException` if no state is saved");
        VaultShelves x = new VaultShelves();
        CHECK.refused("a new object", x, NOT_NOW, x::undo);
        x.month();
        CHECK.equal("one", x.undo(), 0);
        CHECK.refused("none again", x, NOT_NOW, x::undo);
        Check.outcome(() -> x.call(0));
        CHECK.refused("none by a refused call", x, NOT_NOW, x::undo);
        Check.write(x, "month");
        CHECK.refused("none by a text", x, NOT_NOW, x::undo);
        CHECK.equal("which stays", x.clearText(), 5);
        x.addRecord(1, 1);
        CHECK.equal("and then it goes on", x.undo(), 0);
    }

    private static void promise31From0To6() {
        CHECK.sentence("Returns the number of saved states, 0 to 6.");
        VaultShelves x = new VaultShelves();
        CHECK.equal("none", x.savedStates(), 0);
        for (int calls = 1; calls <= 30; calls++) {
            x.month();
            CHECK.equal("behind " + calls, x.savedStates(), calls < 6 ? calls : 6);
        }
        for (int left = 5; left >= 0; left--) {
            x.undo();
            CHECK.equal("left", x.savedStates(), left);
        }
    }

    private static long digest(long... values) {
        BigInteger hash = BigInteger.valueOf(4424);
        for (long value : values) {
            hash = hash.multiply(BigInteger.valueOf(31)).add(BigInteger.valueOf(value));
        }
        return hash.longValue();
    }

    /** The list of the values, as the document tells it. */
    private static long digestOf(VaultShelves x) {
        long[] values = new long[6 + 12 + 5 * x.records()];
        long[] first = {x.records(), x.misplaced(), x.walked(), x.cost(), x.steps(), x.bestGain()};
        System.arraycopy(first, 0, values, 0, 6);
        for (int shelf = 0; shelf < 6; shelf++) {
            values[6 + 2 * shelf] = x.free(shelf);
            values[7 + 2 * shelf] = x.reach(shelf);
        }
        for (int record = 0; record < x.records(); record++) {
            long[] row = {x.width(record), x.shelfOf(record), x.catalog(record), x.weight(record), x.walkTo(record)};
            System.arraycopy(row, 0, values, 18 + 5 * record, 5);
        }
        return digest(values);
    }

    private static void promise32StartsAt4424() {
        CHECK.sentence("The hash starts at 4424.");
        CHECK.equal("a new object", new VaultShelves().digest(),
                digest(0, 0, 0, 0, 0, 0, 30, 10, 30, 20, 30, 30, 30, 40, 30, 50, 30, 60));
        VaultShelves x = new VaultShelves();
        x.addRecord(1, 0);
        x.removeRecord(0);
        CHECK.equal("an empty one", x.digest(), new VaultShelves().digest());
    }

    private static void promise32TakesTheValuesInOrder() {
        CHECK.sentence("The values are: what records(), misplaced(), walked(), cost(), steps() and bestGain() return; for "
                + "each shelf its free room and its reach; for each record its width, its shelf, its shelf by the "
                + "catalog, its weight, and the walk of a call.");
        VaultShelves x = new VaultShelves();
        x.addRecord(1, 5);
        CHECK.equal("one record", x.digest(),
                digest(1, 0, 0, 0, 0, 0, 30, 10, 30, 20, 30, 30, 30, 40, 30, 50, 29, 60, 1, 5, 5, 0, 60));
        x.call(0);
        x.misplace(0, 0);
        CHECK.equal("misplaced", x.digest(),
                digest(1, 1, 60, 120, 0, 0, 29, 10, 30, 20, 30, 30, 30, 40, 30, 50, 30, 60, 1, 0, 5, 2, 70));
        CHECK.equal("a busy one", Vaults.busy().digest(), digestOf(Vaults.busy()));
        VaultShelves full = Vaults.full();
        CHECK.equal("16 records", full.digest(), digestOf(full));
        full.misplace(15, 0);
        full.call(15);
        full.call(14);
        full.night(1);
        CHECK.equal("each value changed", full.digest(), digestOf(full));
        VaultShelves x30 = Vaults.longNights();
        CHECK.equal("with many calls", x30.digest(), digestOf(x30));
    }

    private static void promise32Overflows() {
        CHECK.sentence("the hash becomes 31 * hash + v, in long arithmetic with overflow.");
        CHECK.equal("beyond the greatest long, once or more", new VaultShelves().digest(), 6024585663015239398L);
        boolean below = false;
        boolean above = false;
        for (int records = 0; records <= 16; records++) {
            VaultShelves x = new VaultShelves();
            for (int record = 0; record < records; record++) {
                x.addRecord(1 + record % 10, record % 6);
            }
            CHECK.equal("records: " + records, x.digest(), digestOf(x));
            below |= x.digest() < 0;
            above |= x.digest() > 0;
        }
        CHECK.equal("some are negative, and some not", below && above ? 1 : 0, 1);
    }

    private static void promise32WithoutTheBufferAndTheSavedStates() {
        CHECK.sentence("Computes a hash of the state.");
        VaultShelves x = new VaultShelves();
        long before = x.digest();
        Check.write(x, "month");
        CHECK.equal("the buffer is none of it", x.digest(), before);
        x.run();
        CHECK.equal("nor is a saved state", x.digest(), before);
        x.undo();
        CHECK.equal("it is the same after undo()", x.digest(), before);
        x.addRecord(1, 0);
        CHECK.equal("and another one with a record", x.digest() == before ? 1 : 0, 0);
    }
}
