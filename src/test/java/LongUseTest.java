/** "An object is used for at most 512 calls after it has been made": up to the last one of them each answer is due. */
final class LongUseTest {
    private static final int CALLS = 512;
    private static final Check CHECK = new Check("LongUseTest");

    public static void main(String[] args) {
        the512thCallWalks();
        the512thCallIsUndone();
        theGreatestWeight();
        fullTextsToTheEnd();
        laterCallsThrowNothingElse();
        CHECK.end();
    }

    private static void the512thCallWalks() {
        CHECK.sentence("An object is used for at most 512 calls after it has been made");
        VaultShelves x = new VaultShelves();
        x.addRecord(30, 5);
        for (int call = 2; call < CALLS; call++) {
            CHECK.equal("call " + call, x.call(0), 60);
        }
        CHECK.equal("the last call", x.walked(), 60 * (CALLS - 2));
    }

    private static void the512thCallIsUndone() {
        CHECK.sentence("An object is used for at most 512 calls after it has been made (undo)");
        VaultShelves x = new VaultShelves();
        for (int call = 1; call <= CALLS - 8; call++) {
            CHECK.equal("call " + call, x.setShelf(call % 6, 10 + call % 90, 1 + call % 99), 10 + call % 90);
        }
        for (int left = 5; left >= 0; left--) {
            CHECK.equal("undone", x.undo(), left);
        }
        CHECK.equal("no more", Check.outcome(x::undo), "throws IllegalStateException");
        int last = CALLS - 8 - 6;
        CHECK.equal("the last call", x.free(last % 6), 10 + last % 90);
    }

    private static void theGreatestWeight() {
        CHECK.sentence("An object is used for at most 512 calls after it has been made (weight, cost and gain)");
        VaultShelves x = new VaultShelves();
        x.setShelf(5, 30, 99);
        x.setShelf(0, 30, 1);
        x.addRecord(1, 5);
        for (int call = 4; call <= CALLS - 6; call++) {
            x.call(0);
        }
        int calls = CALLS - 6 - 3;
        CHECK.equal("weight", x.weight(0), 2 * calls);
        CHECK.equal("cost", x.cost(), 2 * calls * 99);
        CHECK.equal("best gain", x.bestGain(), 2 * calls * 98);
        CHECK.equal("forecast", x.costAfterNight(20), 2 * calls);
        CHECK.equal("calls of the month", x.month(), calls);
        CHECK.equal("the last call", x.weight(0), calls);
    }

    private static void fullTextsToTheEnd() {
        CHECK.sentence("An object is used for at most 512 calls after it has been made (texts)");
        VaultShelves x = new VaultShelves();
        x.addRecord(1, 3);
        int calls = 1;
        String text = "call0;call0;call0;call0;call0;call0;call0;call0;call0;month";
        int walked = 0;
        while (calls + text.length() + 2 <= CALLS) {
            for (int i = 0; i < text.length(); i++) {
                CHECK.equal("append", x.append(text.charAt(i)), i + 1);
            }
            CHECK.equal("run", x.run(), 10);
            walked += 9 * 40;
            CHECK.equal("walked", x.walked(), walked);
            calls += text.length() + 2;
        }
        CHECK.equal("weight", x.weight(0), 9);
    }

    private static void laterCallsThrowNothingElse() {
        CHECK.sentence("what later calls answer is free.");
        VaultShelves x = new VaultShelves();
        String text = "add1@0;call0;lose0@1;month;night2;x";
        boolean documented = true;
        for (int call = 0; call < 20000; call++) {
            int number = call;
            Check.Call[] calls = {
                () -> x.setShelf(number % 8 - 1, number % 101, number % 103), () -> x.addRecord(number % 32, number % 7),
                () -> x.call(number % 17), () -> x.misplace(number % 16, number % 6), x::month, () -> x.night(number % 22),
                () -> x.costAfterNight(20), () -> x.append(text.charAt(number % text.length())), x::firstError, x::run,
                x::undo, x::digest, () -> x.walkTo(number % 17), () -> x.removeRecord(number % 50), x::fullness,
                () -> x.reason(number % 17, number % 7), () -> x.shelfFor(number % 32),
            };
            String outcome = Check.outcome(calls[call * 7 % calls.length]);
            documented &= !outcome.startsWith("throws") || outcome.equals("throws IndexOutOfBoundsException")
                    || outcome.equals("throws IllegalArgumentException") || outcome.equals("throws IllegalStateException");
        }
        CHECK.equal("no exception but the document's", documented ? 1 : 0, 1);
    }
}
