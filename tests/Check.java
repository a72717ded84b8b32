/** Counts the tests of one program and tells those that fail. */
final class Check {
    private int passed;
    private int failed;
    private String test = "";
    private boolean wrong;

    /** A new test begins; the one before it ends. */
    void begin(String name) {
        end();
        test = name;
        wrong = false;
    }

    private void end() {
        if (test.isEmpty()) {
            return;
        }
        if (wrong) {
            failed++;
        } else {
            passed++;
        }
    }

    void same(String call, long got, long want) {
        if (got != want) {
            fail(call + " answered " + got + ", due is " + want);
        }
    }

    /** A test of one answer. */
    void edge(String name, long got, long want) {
        begin(name);
        same("it", got, want);
    }

    /** A test of what is seen. */
    void edge(String name, String got, String want) {
        begin(name);
        if (!got.equals(want)) {
            fail("seen is\n" + got + "\ndue is\n" + want);
        }
    }

    void fail(String why) {
        wrong = true;
        System.out.println(test + ": " + why);
    }

    /** Tells how many passed and failed, and ends the program. */
    void close() {
        end();
        System.out.println(passed + " passed, " + failed + " failed");
        System.exit(failed == 0 ? 0 : 1);
    }
}
