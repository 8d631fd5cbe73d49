/** Promises 30 to 32: undo, saved states and the digest. */
final class UndoTest {
    private static final Class<?> NOT_NOW = IllegalStateException.class;
    private static final Check CHECK = new Check("UndoTest");

    public static void main(String[] args) {
        promise30EachUndoableMethod();
        promise30Refusal();
        promise30AllOfTheState();
        promise30TheBufferStays();
        promise31AtMostSix();
        promise31NotUndoable();
        promise32NewObject();
        promise32EachValue();
        CHECK.end();
    }

    private static void undoable(String name, VaultShelves x, Check.Call call) {
        String before = Check.outside(x);
        int saved = x.savedStates();
        call.answer();
        CHECK.equal("30: " + name + " saves", x.savedStates(), saved + 1);
        CHECK.equal("30: undo of " + name, x.undo(), saved);
        CHECK.equal("30: all is as before " + name, Check.outside(x), before);
    }

    private static VaultShelves oneCalledOfTwo() {
        VaultShelves x = new VaultShelves();
        x.addRecord(10, 3);
        x.addRecord(20, 4);
        x.call(1);
        return x;
    }

    private static void promise30EachUndoableMethod() {
        VaultShelves x = oneCalledOfTwo();
        undoable("setShelf", x, () -> x.setShelf(3, 50, 7));
        undoable("setShelf with the same", x, () -> x.setShelf(0, 30, 10));
        undoable("addRecord", x, () -> x.addRecord(3, 3));
        undoable("removeRecord", x, () -> x.removeRecord(0));
        undoable("call", x, () -> x.call(0));
        undoable("misplace", x, () -> x.misplace(0, 0));
        VaultShelves y = oneCalledOfTwo();
        undoable("misplace where it is", y, () -> y.misplace(0, 3));
        undoable("month", y, y::month);
        undoable("night", y, () -> y.night(3));
        y.night(20);
        undoable("night without a step", y, () -> y.night(3));
    }

    private static void promise30Refusal() {
        VaultShelves x = new VaultShelves();
        CHECK.refused("30: no state", x, NOT_NOW, x::undo);
        x.month();
        CHECK.equal("30: none is left", x.undo(), 0);
        CHECK.refused("30: no state any more", x, NOT_NOW, x::undo);
        CHECK.equal("30: there is no redo", x.savedStates(), 0);
    }

    private static void promise30AllOfTheState() {
        VaultShelves x = new VaultShelves();
        String[] seen = new String[6];
        Check.Call[] calls = {
            () -> x.addRecord(10, 3), () -> x.call(0), () -> x.misplace(0, 5), x::month, () -> x.call(0),
            () -> x.night(2),
        };
        for (int i = 0; i < 6; i++) {
            seen[i] = Check.outside(x);
            calls[i].answer();
        }
        for (int i = 5; i >= 0; i--) {
            CHECK.equal("30: states left", x.undo(), i);
            CHECK.equal("30: state " + i, Check.outside(x), seen[i]);
        }
    }

    private static void promise30TheBufferStays() {
        VaultShelves x = new VaultShelves();
        x.append('m');
        x.month();
        x.append('x');
        CHECK.equal("30: undo", x.undo(), 0);
        CHECK.equal("30: the buffer's error", x.firstError(), 1);
        CHECK.equal("30: the buffer", x.clearText(), 2);
    }

    private static void promise31AtMostSix() {
        VaultShelves x = new VaultShelves();
        for (int i = 0; i < 9; i++) {
            CHECK.equal("31: saved before " + i, x.savedStates(), Math.min(i, 6));
            x.addRecord(1, 0);
        }
        CHECK.equal("31: six", x.savedStates(), 6);
        for (int left = 5; left >= 0; left--) {
            CHECK.equal("31: left", x.undo(), left);
            CHECK.equal("31: savedStates", x.savedStates(), left);
            CHECK.equal("31: records", x.records(), 3 + left);
        }
        CHECK.refused("31: the oldest ones are discarded", x, NOT_NOW, x::undo);
        x.addRecord(1, 0);
        x.call(3);
        x.undo();
        CHECK.equal("31: again one", x.savedStates(), 1);
        CHECK.equal("31: of four records", x.records(), 4);
    }

    private static void promise31NotUndoable() {
        VaultShelves x = new VaultShelves();
        x.addRecord(5, 2);
        x.append('a');
        x.firstError();
        x.clearText();
        x.records();
        x.bestGain();
        x.costAfterNight(3);
        x.digest();
        CHECK.equal("31: only addRecord is saved", x.savedStates(), 1);
        CHECK.equal("31: one that throws is not", Check.outcome(() -> x.call(7)), "throws IndexOutOfBoundsException");
        CHECK.equal("31: still one", x.savedStates(), 1);
    }

    private static long hash(long... values) {
        long hash = 4424;
        for (long value : values) {
            hash = 31 * hash + value;
        }
        return hash;
    }

    private static void promise32NewObject() {
        CHECK.equal("32: new", new VaultShelves().digest(),
                hash(0, 0, 0, 0, 0, 0, 30, 10, 30, 20, 30, 30, 30, 40, 30, 50, 30, 60));
    }

    private static void promise32EachValue() {
        VaultShelves x = new VaultShelves();
        x.addRecord(10, 2);
        x.addRecord(20, 5);
        x.setShelf(1, 40, 25);
        Check.callOften(x, 0, 3);
        x.call(1);
        x.night(1);
        x.misplace(1, 3);
        // Record 0 is on shelf 0 now, and record 1, of shelf 5, is on shelf 3.
        CHECK.equal("32: values", x.digest(), hash(2, 1, 150, 180, 1, 0, 20, 10, 40, 25, 30, 30, 10, 40, 30, 50, 30, 60,
                10, 0, 0, 6, 10, 20, 3, 5, 2, 165));
        x.misplace(1, 5);
        CHECK.equal("32: best gain", x.digest(), hash(2, 0, 150, 180, 1, 100, 20, 10, 40, 25, 30, 30, 30, 40, 30, 50,
                10, 60, 10, 0, 0, 6, 10, 20, 5, 5, 2, 60));
        x.append('z');
        CHECK.equal("32: the buffer is no part", x.digest(), hash(2, 0, 150, 180, 1, 100, 20, 10, 40, 25, 30, 30, 30,
                40, 30, 50, 10, 60, 10, 0, 0, 6, 10, 20, 5, 5, 2, 60));
    }
}
