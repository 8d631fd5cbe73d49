/** Counts what the tests of one class found, and prints each answer that is not the one that is due. */
final class Check {
    interface Call {
        double answer();
    }

    /** Makes an object with some calls behind it, and at each time the same ones. */
    interface Maker {
        VaultShelves make();
    }

    interface Act {
        double on(VaultShelves vault);
    }

    private final String suite;
    private String sentence = "";
    private int answersToSentence = 1;
    private int passed;
    private int failed;

    Check(String suite) {
        this.suite = suite;
    }

    /** The sentence of the document that the next answers are about; one without an answer is a fault of the test. */
    void sentence(String words) {
        if (answersToSentence == 0) {
            report("no answer is compared for this sentence", false, "0", "1 or more");
        }
        sentence = words;
        answersToSentence = 0;
    }

    void equal(String what, double got, double due) {
        report(what, got == due, String.valueOf(got), String.valueOf(due));
    }

    void equal(String what, long got, long due) {
        report(what, got == due, String.valueOf(got), String.valueOf(due));
    }

    void equal(String what, String got, String due) {
        report(what, got.equals(due), got, due);
    }

    /** A call that throws must throw exactly this, and leave the object as it was. */
    void refused(String what, VaultShelves vault, Class<?> due, Call call) {
        String before = brief(vault);
        equal(what, outcome(call), "throws " + due.getSimpleName());
        equal(what + " changes nothing", brief(vault), before);
    }

    /** As refused(), but looks also where looking changes the object: at the buffer, the months and the saved states. */
    void refusedWholly(String what, Maker maker, Class<?> due, Act act) {
        String without = whole(maker, vault -> 0);
        String with = whole(maker, vault -> {
            equal(what, outcome(() -> act.on(vault)), "throws " + due.getSimpleName());
            return 0;
        });
        equal(what + " changes nothing", with, without);
    }

    /** All that can be learned of an object behind the act; a look that changes it needs an object of its own. */
    static String whole(Maker maker, Act act) {
        VaultShelves text = behind(maker, act);
        StringBuilder seen = new StringBuilder(outside(text));
        seen.append(" run ").append(outcome(text::run)).append(' ').append(brief(text));
        seen.append(" length ").append(text.clearText());
        VaultShelves months = behind(maker, act);
        seen.append(" months ").append(months.month()).append(' ').append(brief(months));
        VaultShelves states = behind(maker, act);
        while (states.savedStates() > 0) {
            seen.append(" undone ").append(states.undo()).append(' ').append(brief(states));
        }
        return seen.toString();
    }

    private static VaultShelves behind(Maker maker, Act act) {
        VaultShelves vault = maker.make();
        act.on(vault);
        return vault;
    }

    static String outcome(Call call) {
        try {
            return number(call.answer());
        } catch (RuntimeException e) {
            return "throws " + e.getClass().getSimpleName();
        }
    }

    static String number(double value) {
        return value == Math.rint(value) ? String.valueOf((long) value) : String.valueOf(value);
    }

    /** What a few calls can tell of an object without changing it: objects are used for 512 calls alone. */
    static String brief(VaultShelves vault) {
        return vault.digest() + " " + vault.fullness() + " " + vault.firstError() + " " + vault.savedStates();
    }

    /** What can be seen of an object without changing it. */
    static String outside(VaultShelves vault) {
        StringBuilder seen = new StringBuilder();
        for (int shelf = 0; shelf < 6; shelf++) {
            seen.append(vault.free(shelf)).append('/').append(vault.reach(shelf)).append(' ');
        }
        for (int record = 0; record < vault.records(); record++) {
            seen.append(vault.width(record)).append(':').append(vault.shelfOf(record)).append(':')
                    .append(vault.catalog(record)).append(':').append(vault.weight(record)).append(' ');
        }
        return seen.append(vault.walked()).append(' ').append(vault.steps()).append(' ')
                .append(brief(vault)).toString();
    }

    /** Empties the buffer and puts the text into it. */
    static void write(VaultShelves vault, String text) {
        vault.clearText();
        for (int i = 0; i < text.length(); i++) {
            vault.append(text.charAt(i));
        }
    }

    /** Calls the record so often; the answers do not matter. */
    static void callOften(VaultShelves vault, int record, int times) {
        for (int i = 0; i < times; i++) {
            vault.call(record);
        }
    }

    void end() {
        sentence("");
        System.out.println(suite + ": " + passed + " passed, " + failed + " failed");
        if (failed > 0 || passed == 0) {
            System.exit(1);
        }
    }

    private void report(String what, boolean right, String got, String due) {
        answersToSentence++;
        if (right) {
            passed++;
        } else {
            failed++;
            System.out.println(suite + ": " + what + " answered " + got + ", due is " + due);
            if (!sentence.isEmpty()) {
                System.out.println("    by the sentence: " + sentence);
            }
        }
    }
}
