/** Counts what the tests of one class found, and prints each answer that is not the one that is due. */
final class Check {
    interface Call {
        double answer();
    }

    private final String suite;
    private int passed;
    private int failed;

    Check(String suite) {
        this.suite = suite;
    }

    void equal(String what, double got, double due) {
        report(what, got == due, String.valueOf(got), String.valueOf(due));
    }

    void equal(String what, long got, long due) {
        report(what, got == due, String.valueOf(got), String.valueOf(due));
    }

    void equal(String what, String got, String due) {
        report(what, got.equals(due), got, due);
    }

    /** A call that throws must throw exactly this, and leave the object as it was. */
    void refused(String what, VaultShelves vault, Class<?> due, Call call) {
        String before = outside(vault);
        equal(what, outcome(call), "throws " + due.getSimpleName());
        equal(what + " changes nothing", outside(vault), before);
    }

    static String outcome(Call call) {
        try {
            return number(call.answer());
        } catch (RuntimeException e) {
            return "throws " + e.getClass().getSimpleName();
        }
    }

    static String number(double value) {
        return value == Math.rint(value) ? String.valueOf((long) value) : String.valueOf(value);
    }

    /** What can be seen of an object without changing it. */
    static String outside(VaultShelves vault) {
        StringBuilder seen = new StringBuilder();
        for (int shelf = 0; shelf < 6; shelf++) {
            seen.append(vault.free(shelf)).append('/').append(vault.reach(shelf)).append(' ');
        }
        for (int record = 0; record < vault.records(); record++) {
            seen.append(vault.width(record)).append(':').append(vault.shelfOf(record)).append(':')
                    .append(vault.catalog(record)).append(':').append(vault.weight(record)).append(' ');
        }
        return seen.append(vault.walked()).append(' ').append(vault.steps()).append(' ')
                .append(vault.fullness()).append(' ').append(vault.firstError()).append(' ')
                .append(vault.savedStates()).append(' ').append(vault.digest()).toString();
    }

    /** Empties the buffer and puts the text into it. */
    static void write(VaultShelves vault, String text) {
        vault.clearText();
        for (int i = 0; i < text.length(); i++) {
            vault.append(text.charAt(i));
        }
    }

    /** Calls the record so often; the answers do not matter. */
    static void callOften(VaultShelves vault, int record, int times) {
        for (int i = 0; i < times; i++) {
            vault.call(record);
        }
    }

    void end() {
        System.out.println(suite + ": " + passed + " passed, " + failed + " failed");
        if (failed > 0 || passed == 0) {
            System.exit(1);
        }
    }

    private void report(String what, boolean right, String got, String due) {
        if (right) {
            passed++;
        } else {
            failed++;
            System.out.println(suite + ": " + what + " answered " + got + ", due is " + due);
        }
    }
}
