import java.util.function.IntSupplier;

/** What the tests of the document's sentences have in common: errors, checks, and scenes to begin with. */
abstract class TestBase {
    static final int INVALID = -1000001;
    static final int NOT_POSSIBLE = -1000002;
    static final int LIMIT = -1000003;
    static final int NOT_FOUND = -1000004;
    static final int MIN = Integer.MIN_VALUE;
    static final int MAX = Integer.MAX_VALUE;
    static final int FULL_ONE = 0x3F800000;

    static final Checks CHECKS = new Checks();

    // ---- checks

    static void about(String what) {
        CHECKS.about(what);
    }

    /** Where the document says it, its words ("..": some are left out), and which case of them is looked at. */
    static void about(String where, String words) {
        CHECKS.about(where + ", \"" + words + "\"");
    }

    static void about(String where, String words, String which) {
        CHECKS.about(where + ", \"" + words + "\": " + which);
    }

    static void due(String call, long got, long want) {
        CHECKS.due(call, got, want);
    }

    static void refused(Run x, String call, IntSupplier made, int error) {
        CHECKS.refused(x, call, made, error);
    }

    static void read(Run x, String call, IntSupplier made, int want) {
        CHECKS.read(x, call, made, want);
    }

    static void undone(Run x, String call, IntSupplier made, int want) {
        CHECKS.undone(x, call, made, want);
    }

    static void purses(Run x, int house, int... wanted) {
        due("coins of the house", x.count(3), house);
        for (int i = 0; i < wanted.length; i++) {
            due("purse of " + i, x.oracleOf(i, 2), wanted[i]);
        }
    }

    /** What the loans owe, in their order, and how many there are. */
    static void owed(Run x, int... wanted) {
        due("loans", x.count(8), wanted.length);
        for (int i = 0; i < wanted.length; i++) {
            due("owed by loan " + i, x.loanOf(i, 2), wanted[i]);
        }
        due("behind the last loan", x.loanOf(wanted.length, 2), INVALID);
    }

    // ---- numbers

    /** The first ones that are not allowed on both sides, and some far off, such as would fit if bits were lost. */
    static int[] outside(int least, int most) {
        return new int[] {least - 1, most + 1, least - 256, most + 256, least + 65536, MIN, MAX};
    }

    static int bits(int part, int whole) {
        return Float.floatToIntBits((float) part / (float) whole);
    }

    // ---- scenes

    /** Oracle 0 always says 1, oracle 1 always says 0; both sit in booth 0. */
    static Run rivals(int firstPurse, int secondPurse) {
        Run x = new Run();
        x.oracle(0, 1, firstPurse);
        x.oracle(0, 0, secondPurse);
        x.seat(0, 0);
        x.seat(1, 0);
        return x;
    }

    /**
     * Five oracles, three loans, nine branches, four states, a text that lacks its last sign. Kinds 0, 1, 4, 3, 0;
     * the first four have seats (booths 0, 1, 2, 1), the last two are ruined.
     */
    static Run busy() {
        Run x = new Run();
        x.oracle(0, 1, 100);
        x.oracle(1, 2, 60);
        x.oracle(4, 0, 30);
        x.oracle(3, 5, 9);
        x.oracle(0, 0, 0);
        x.seat(0, 0);
        x.seat(1, 1);
        x.seat(2, 2);
        x.seat(3, 1);
        branches(x, 63, "1011");
        x.lend(0, 1, 20);
        x.lend(1, 3, 7);
        x.lend(0, 2, 50);
        branches(x, 5, "11010");
        write(x, "loop 5 3;cut 7;flip 62 2");
        return x;
    }

    static void write(Run x, String text) {
        x.clearText();
        for (char character : text.toCharArray()) {
            x.type(character);
        }
    }

    static void branches(Run x, int address, String ways) {
        for (char way : ways.toCharArray()) {
            x.branch(address, way - '0');
        }
    }
}
