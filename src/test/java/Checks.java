import java.util.function.IntSupplier;

/** Counts checks, prints those that fail, and ends the test with exit code 1 if there was one. */
final class Checks {
    private String about = "";
    private int passed = 0;
    private int failed = 0;

    void about(String what) {
        about = what;
    }

    void due(String call, long got, long want) {
        that(call + " answered " + got + ", due is " + want, got == want);
    }

    void that(String complaint, boolean holds) {
        if (holds) {
            passed++;
        } else {
            failed++;
            System.out.println(about + ": " + complaint);
        }
    }

    /** The call answers with this error, and nothing that can be seen has changed. */
    void refused(Run x, String call, IntSupplier made, int error) {
        read(x, call, made, error);
    }

    /** The call answers so, is one change, and undo restores all that can be seen. */
    void undone(Run x, String call, IntSupplier made, int want) {
        String before = View.ofState(x);
        int states = x.count(9);
        due(call, made.getAsInt(), want);
        due(call + ": states behind it", x.count(9), Math.min(4, states + 1));
        due(call + ": undo", x.undo(), Math.min(4, states + 1) - 1);
        that(call + " is not undone whole", View.ofState(x).equals(before));
    }

    /** The call answers so and nothing that can be seen has changed. */
    void read(Run x, String call, IntSupplier made, int want) {
        String before = View.ofAll(x);
        due(call, made.getAsInt(), want);
        that(call + " changes something", View.ofAll(x).equals(before));
    }

    void end() {
        System.out.println(passed + " passed, " + failed + " failed");
        if (failed != 0 || passed == 0) {
            System.exit(1);
        }
    }
}
