import java.util.List;
import java.util.Random;

/** Long runs of calls, the same ones every time, with each answer compared to the one of the model. */
final class ModelTest {
    private static final int RUNS = 150;
    private static final int CALLS = 512;
    private static final Check CHECK = new Check("ModelTest");

    private final Random random;
    private final VaultShelves vault = new VaultShelves();
    private final Model model = new Model();
    private final boolean crowded;
    private int calls;

    private ModelTest(int seed) {
        random = new Random(seed);
        crowded = seed % 2 == 0;
    }

    public static void main(String[] args) {
        for (int seed = 0; seed < RUNS; seed++) {
            new ModelTest(seed).compareRun(seed);
        }
        CHECK.end();
    }

    private void compareRun(int seed) {
        while (calls < CALLS - 70) {
            compareCall(seed);
            // As whole numbers: a double would lose the last figures of a digest.
            calls++;
            CHECK.equal("run " + seed + ", call " + calls + ", digest()", vault.digest(), model.digest());
            same(seed, "savedStates()", vault::savedStates, () -> model.saved.size());
        }
    }

    private void same(int seed, String call, Check.Call got, Check.Call due) {
        calls++;
        CHECK.equal("run " + seed + ", call " + calls + ", " + call, Check.outcome(got), Check.outcome(due));
    }

    /** Mostly from the range, and now and then just beyond it. */
    private int some(int least, int most) {
        if (random.nextInt(40) == 0) {
            return random.nextBoolean() ? least - 1 : most + 1;
        }
        return least + random.nextInt(most - least + 1);
    }

    private int someRecord() {
        return some(0, Math.max(0, model.state.items.size() - 1));
    }

    private int someWidth() {
        return random.nextBoolean() ? some(1, crowded ? 12 : 8) : some(1, 30);
    }

    private void compareCall(int seed) {
        int kind = random.nextInt(100);
        if (kind < 14) {
            compareText(seed);
        } else if (kind < 80) {
            compareChange(seed, kind);
        } else {
            compareQuestion(seed, kind);
        }
    }

    private void compareChange(int seed, int kind) {
        int record = someRecord();
        int shelf = some(0, 5);
        int width = someWidth();
        int room = some(10, crowded ? 40 : 99);
        int reach = random.nextInt(3) == 0 ? 10 * some(1, 6) : some(1, 99);
        int steps = random.nextBoolean() ? some(1, 3) : some(1, 20);
        if (kind < 20) {
            same(seed, "setShelf(" + shelf + ", " + room + ", " + reach + ")",
                    () -> vault.setShelf(shelf, room, reach), () -> model.setShelf(shelf, room, reach));
        } else if (kind < 36) {
            same(seed, "addRecord(" + width + ", " + shelf + ")",
                    () -> vault.addRecord(width, shelf), () -> model.addRecord(width, shelf));
        } else if (kind < 38) {
            same(seed, "removeRecord(" + record + ")",
                    () -> vault.removeRecord(record), () -> model.removeRecord(record));
        } else if (kind < 56) {
            same(seed, "call(" + record + ")", () -> vault.call(record), () -> model.call(record));
        } else if (kind < 64) {
            same(seed, "misplace(" + record + ", " + shelf + ")",
                    () -> vault.misplace(record, shelf), () -> model.misplace(record, shelf));
        } else if (kind < 67) {
            same(seed, "month()", vault::month, model::month);
        } else if (kind < 74) {
            same(seed, "night(" + steps + ")", () -> vault.night(steps), () -> model.night(steps));
        } else {
            same(seed, "undo()", vault::undo, model::undo);
        }
    }

    private void compareQuestion(int seed, int kind) {
        int record = someRecord();
        int shelf = some(0, 5);
        int width = someWidth();
        int steps = some(1, 20);
        if (kind < 84) {
            same(seed, "reason(" + record + ", " + shelf + ")",
                    () -> vault.reason(record, shelf), () -> model.reason(record, shelf));
        } else if (kind < 87) {
            same(seed, "bestGain()", vault::bestGain, model::bestGain);
        } else if (kind < 90) {
            same(seed, "costAfterNight(" + steps + ")",
                    () -> vault.costAfterNight(steps), () -> model.costAfterNight(steps));
        } else if (kind < 93) {
            same(seed, "walkTo(" + record + ")", () -> vault.walkTo(record), () -> model.walkTo(record));
        } else if (kind < 97) {
            same(seed, "shelfFor(" + width + ")", () -> vault.shelfFor(width), () -> model.shelfFor(width));
        } else {
            same(seed, "fullness()", vault::fullness, model::fullness);
        }
    }

    private void compareText(int seed) {
        String text = someText();
        for (int i = 0; i < text.length() && calls < CALLS - 8; i++) {
            char sign = text.charAt(i);
            same(seed, "append(" + sign + ")", () -> vault.append(sign), () -> model.append(sign));
        }
        same(seed, "firstError() of " + model.text, vault::firstError, model::firstError);
        same(seed, "run() of " + model.text, vault::run, model::run);
        if (random.nextInt(4) > 0) {
            same(seed, "clearText()", vault::clearText, model::clearText);
        }
    }

    /** A few orders, every second time with one sign put out of place. */
    private String someText() {
        List<String> orders = Model.orderTexts();
        StringBuilder text = new StringBuilder();
        int most = 1 + random.nextInt(5);
        for (int i = 0; i < most; i++) {
            text.append(i == 0 ? "" : ";").append(orders.get(random.nextInt(orders.size())));
        }
        if (random.nextInt(3) == 0) {
            text.setCharAt(random.nextInt(text.length()), "0123456789@;acdehilmnorst~".charAt(random.nextInt(26)));
        } else if (random.nextInt(3) == 0) {
            text.setLength(1 + random.nextInt(text.length()));
        }
        return text.toString();
    }
}
