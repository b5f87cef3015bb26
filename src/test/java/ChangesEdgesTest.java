/** The boundary cases of the section "Changes and errors": what is a change, four states, errors and their order. */
public final class ChangesEdgesTest extends TestBase {
    private ChangesEdgesTest() {
    }

    public static void main(String[] args) {
        eachChange();
        noChange();
        refusedCallsAreNoChanges();
        fourStates();
        fiveStates();
        manyStates();
        emptyPast();
        undoThenChange();
        textIsNotRecorded();
        allElseIsRecorded();
        invalidFirst();
        notPossibleBeforeLimit();
        noSuchOracle();
        noSuchLoan();
        CHECKS.end();
    }

    private static void eachChange() {
        about("Changes and errors", "The changes are the calls of set, oracle, seat, stand, give, lend, branch and "
                + "play that return no error");
        Run x = busy();
        undone(x, "set", () -> x.set(0, 50), 5);
        undone(x, "oracle", () -> x.oracle(3, 5, 9999), 5);
        undone(x, "seat", () -> x.seat(4, 0), 2);
        undone(x, "stand", () -> x.stand(3), 1);
        undone(x, "give", () -> x.give(4, 9999), 9999);
        undone(x, "lend", () -> x.lend(0, 4, 74), 3);
        undone(x, "branch", () -> x.branch(0, 1), 10);
        x.type(';');
        undone(x, "play", x::play, 5);
        Run y = busy();
        y.clearText();
        undone(y, "play of no text", y::play, 0);
        undone(y, "set to the same", () -> y.set(0, 5), 5);
        write(y, "cut 10;");
        undone(y, "play of a cut as it is", y::play, 0);
    }

    private static void noChange() {
        about("Changes and errors", "The changes are the calls of set, oracle, seat, stand, give, lend, branch and "
                + "play that return no error", "all others are none");
        Run x = rivals(50, 50);
        x.undo();
        due("states", x.count(9), 3);
        due("undo is none", x.undo(), 2);
        due("type is none", x.type('a') + x.count(9), 1 + 2);
        due("clearText is none", x.clearText() + x.count(9), 1 + 2);
        Run y = busy();
        read(y, "oracleOf", () -> y.oracleOf(0, 2), 74);
        read(y, "counter", () -> y.counter(1, 3), 3);
        read(y, "loanOf", () -> y.loanOf(1, 2), 7);
        read(y, "aliases", () -> y.aliases(3, 5), 0);
        read(y, "share", () -> y.share(2), bits(4, 9));
        read(y, "rich", () -> y.rich(0), 2);
        read(y, "says", () -> y.says(2, 5), 0);
        read(y, "stake", () -> y.stake(1, 3), 10);
        read(y, "odds", () -> y.odds(0), bits(5, 15));
        read(y, "gain", () -> y.gain(4, 0, 1), 0);
        read(y, "doom", () -> y.doom(4, 0, 1), 0);
        read(y, "bestRow", () -> y.bestRow(4, 0, 5, 0), 0);
        read(y, "count", () -> y.count(9), 4);
        read(y, "fault", () -> y.fault(0), 15);
    }

    private static void refusedCallsAreNoChanges() {
        about("Changes and errors", "A call that returns an error changes nothing");
        Run x = busy();
        refused(x, "set", () -> x.set(0, 51), INVALID);
        refused(x, "oracle", () -> x.oracle(4, 1, 5), INVALID);
        refused(x, "seat", () -> x.seat(1, 2), NOT_POSSIBLE);
        refused(x, "stand", () -> x.stand(4), NOT_POSSIBLE);
        refused(x, "give", () -> x.give(0, 0), INVALID);
        refused(x, "lend", () -> x.lend(4, 0, 1), NOT_POSSIBLE);
        refused(x, "branch", () -> x.branch(0, 2), INVALID);
        refused(x, "play", x::play, NOT_POSSIBLE);
        refused(x, "type", () -> x.type(127), INVALID);
        refused(x, "counter", () -> x.counter(0, 0), NOT_FOUND);
        refused(x, "share", () -> x.share(4), NOT_FOUND);
        refused(x, "rich", () -> x.rich(5), NOT_FOUND);
        refused(x, "fault", () -> x.fault(3), INVALID);
        due("undo behind all of them", x.undo(), 3);
        due("branches", x.count(6), 8);
    }

    /** A run of as many gifts of one coin to a new oracle; the oracle itself is not among the states any more. */
    private static Run gifts(int times) {
        Run x = new Run();
        x.oracle(0, 0, 0);
        x.undo();
        x.oracle(0, 0, 0);
        for (int i = 0; i < times; i++) {
            due("give", x.give(0, 1), i + 1);
        }
        return x;
    }

    private static void fourStates() {
        about("Changes and errors", "A history of at most 4 states is kept", "4 changes, all are undone");
        Run x = gifts(3);
        due("states", x.count(9), 4);
        for (int left = 3; left >= 1; left--) {
            due("undo", x.undo(), left);
            due("states", x.count(9), left);
            due("purse", x.oracleOf(0, 2), left - 1);
        }
        due("undo of the first change", x.undo(), 0);
        due("oracles", x.count(0), 0);
        refused(x, "a fifth undo", x::undo, NOT_POSSIBLE);
    }

    private static void fiveStates() {
        about("Changes and errors", "if there are 5 states then, the oldest one is dropped");
        Run x = gifts(4);
        due("states", x.count(9), 4);
        for (int left = 3; left >= 0; left--) {
            due("undo", x.undo(), left);
            due("purse", x.oracleOf(0, 2), left);
        }
        refused(x, "undo of the oldest change", x::undo, NOT_POSSIBLE);
        due("the oracle is still there", x.count(0), 1);
    }

    private static void manyStates() {
        about("Changes and errors", "if there are 5 states then, the oldest one is dropped", "again and again");
        for (int times = 5; times <= 13; times++) {
            Run x = gifts(times);
            due("states", x.count(9), 4);
            for (int left = 3; left >= 0; left--) {
                due("undo", x.undo(), left);
                due("purse", x.oracleOf(0, 2), times - 4 + left);
            }
            due("undo once more", x.undo(), NOT_POSSIBLE);
            due("purse", x.oracleOf(0, 2), times - 4);
        }
    }

    private static void emptyPast() {
        about("Promise 22", "NOT_POSSIBLE if it is empty");
        Run x = new Run();
        refused(x, "undo of a new object", x::undo, NOT_POSSIBLE);
        x.type('a');
        x.set(0, 0);
        x.stand(0);
        refused(x, "undo behind what is no change", x::undo, NOT_POSSIBLE);
        x.set(0, 1);
        due("undo of the only change", x.undo(), 0);
        refused(x, "undo again", x::undo, NOT_POSSIBLE);
        due("the unit", x.count(20), 5);
    }

    private static void undoThenChange() {
        about("Promise 22", "Restores the latest state of the history of changes, which is removed from it");
        Run x = gifts(6);
        due("undo", x.undo(), 3);
        due("undo", x.undo(), 2);
        due("purse", x.oracleOf(0, 2), 4);
        due("another change", x.give(0, 100), 104);
        due("states", x.count(9), 3);
        due("another change", x.give(0, 100), 204);
        due("states", x.count(9), 4);
        due("a change that drops the oldest state", x.give(0, 100), 304);
        int[] purses = {204, 104, 4, 3};
        for (int i = 0; i < purses.length; i++) {
            due("undo", x.undo(), 3 - i);
            due("purse", x.oracleOf(0, 2), purses[i]);
        }
        refused(x, "undo of what was dropped", x::undo, NOT_POSSIBLE);
    }

    private static void textIsNotRecorded() {
        about("Changes and errors", "each change records everything before it but the text");
        Run x = new Run();
        write(x, "cut 1;");
        due("play", x.play(), 0);
        write(x, "cut 2");
        due("undo", x.undo(), 0);
        due("the cut", x.count(21), 10);
        due("the text is the later one", x.count(10), 5);
        due("its fault", x.fault(2), 5);
        x.type(';');
        x.play();
        due("the cut", x.count(21), 2);
        x.clearText();
        x.undo();
        due("an empty text stays empty", x.count(10), 0);
        due("nothing to play", x.play(), 0);
        due("the cut", x.count(21), 10);
    }

    private static void allElseIsRecorded() {
        about("Changes and errors", "each change records everything before it but the text");
        Run x = busy();
        String before = View.ofState(x);
        x.set(1, 0);
        x.branch(0, 0);
        x.lend(2, 4, 30);
        x.give(3, 1);
        for (int i = 0; i < 4; i++) {
            x.undo();
        }
        CHECKS.that("four changes at once are not undone whole", View.ofState(x).equals(before));
        x.stand(0);
        x.seat(4, 0);
        x.oracle(2, 5, 77);
        x.branch(33, 1);
        for (int i = 0; i < 4; i++) {
            x.undo();
        }
        CHECKS.that("four others are not undone whole", View.ofState(x).equals(before));
        due("a sixth oracle is new again", x.oracle(2, 5, 78), 5);
        due("its purse", x.oracleOf(5, 2), 78);
        due("its counter of history 7", x.counter(5, 7), 1);
    }

    // ---- errors

    private static void invalidFirst() {
        about("Changes and errors", "If several errors apply to a call, INVALID_ARGUMENT is returned rather than "
                + "NOT_POSSIBLE", "or than any other error");
        Run x = busy();
        refused(x, "seat: no such booth, has a seat", () -> x.seat(0, 3), INVALID);
        refused(x, "seat: no such oracle, booth 1 is full", () -> x.seat(5, 1), INVALID);
        refused(x, "lend: to itself, fewer coins", () -> x.lend(4, 4, 1), INVALID);
        refused(x, "lend: no such debtor, fewer coins", () -> x.lend(4, 5, 1), INVALID);
        refused(x, "lend: too many coins, fewer coins", () -> x.lend(4, 0, 10000), INVALID);
        refused(x, "oracleOf: no such what, no seat", () -> x.oracleOf(4, 11), INVALID);
        refused(x, "counter: index below 0, no table", () -> x.counter(0, -1), INVALID);
        refused(x, "aliases: no such address, no table", () -> x.aliases(0, 64), INVALID);
        refused(x, "doom: no such address, ruined", () -> x.doom(4, 64, 0), INVALID);
        x.oracle(0, 0, 0);
        refused(x, "oracle: no such kind, six of them", () -> x.oracle(5, 0, 0), INVALID);
        refused(x, "oracle: no such number, six of them", () -> x.oracle(4, 1, 0), INVALID);
        refused(x, "oracle: no such purse, six of them", () -> x.oracle(4, 0, -1), INVALID);
        for (int i = 0; i < 5; i++) {
            x.lend(2, 4, 1);
        }
        due("loans", x.count(8), 8);
        refused(x, "lend: to itself, 8 loans", () -> x.lend(2, 2, 1), INVALID);
        refused(x, "lend: 0 coins, 8 loans", () -> x.lend(2, 1, 0), INVALID);
        refused(x, "lend: to itself, fewer coins, 8 loans", () -> x.lend(5, 5, 1), INVALID);
        Run y = new Run();
        refused(y, "rich: place below 0, no oracles", () -> y.rich(-1), INVALID);
        refused(y, "odds: no such address, no stakes", () -> y.odds(64), INVALID);
        refused(y, "fault: no such what, no fault", () -> y.fault(3), INVALID);
    }

    private static void notPossibleBeforeLimit() {
        about("Changes and errors", "NOT_POSSIBLE rather than LIMIT_REACHED");
        Run x = busy();
        refused(x, "seat: not its kind, booth 1 is full", () -> x.seat(4, 1), NOT_POSSIBLE);
        refused(x, "seat: has a seat, booth 1 is full", () -> x.seat(3, 1), NOT_POSSIBLE);
        refused(x, "seat: has a seat, not its kind, booth 1 is full", () -> x.seat(0, 1), NOT_POSSIBLE);
        for (int i = 0; i < 5; i++) {
            x.lend(2, 4, 1);
        }
        refused(x, "lend: fewer coins, 8 loans", () -> x.lend(4, 0, 6), NOT_POSSIBLE);
        refused(x, "lend: as many coins, 8 loans", () -> x.lend(4, 0, 5), LIMIT);
    }

    private static void noSuchOracle() {
        about("Changes and errors", "If there is no oracle or loan with a certain number, this is INVALID_ARGUMENT");
        Run x = busy();
        for (int each : outside(0, 4)) {
            refused(x, "seat(" + each + ")", () -> x.seat(each, 2), INVALID);
            refused(x, "stand(" + each + ")", () -> x.stand(each), INVALID);
            refused(x, "give(" + each + ")", () -> x.give(each, 1), INVALID);
            refused(x, "lend(" + each + ", 0)", () -> x.lend(each, 0, 1), INVALID);
            refused(x, "lend(0, " + each + ")", () -> x.lend(0, each, 1), INVALID);
            refused(x, "lend(" + each + ", itself)", () -> x.lend(each, each, 1), INVALID);
            refused(x, "oracleOf(" + each + ")", () -> x.oracleOf(each, 2), INVALID);
            refused(x, "counter(" + each + ")", () -> x.counter(each, 0), INVALID);
            refused(x, "aliases(" + each + ")", () -> x.aliases(each, 0), INVALID);
            refused(x, "share(" + each + ")", () -> x.share(each), INVALID);
            refused(x, "says(" + each + ")", () -> x.says(each, 0), INVALID);
            refused(x, "stake(" + each + ")", () -> x.stake(each, 0), INVALID);
            refused(x, "gain(" + each + ")", () -> x.gain(each, 0, 1), INVALID);
            refused(x, "doom(" + each + ")", () -> x.doom(each, 0, 1), INVALID);
            refused(x, "bestRow(" + each + ")", () -> x.bestRow(each, 0, 1, 0), INVALID);
        }
    }

    private static void noSuchLoan() {
        about("Changes and errors", "If there is no oracle or loan with a certain number, this is INVALID_ARGUMENT");
        Run x = busy();
        due("the last loan", x.loanOf(2, 2), 34);
        for (int each : outside(0, 2)) {
            for (int what = 0; what <= 2; what++) {
                int asked = what;
                refused(x, "loanOf(" + each + ")", () -> x.loanOf(each, asked), INVALID);
            }
        }
        Run y = new Run();
        refused(y, "no loans", () -> y.loanOf(0, 0), INVALID);
    }
}
