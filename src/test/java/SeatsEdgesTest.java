/** The boundary cases of promises 1 to 8: a new object, settings, oracles, seats, gifts, loans, branches. */
public final class SeatsEdgesTest extends TestBase {
    private static final String OUT_OF_RANGE = "INVALID_ARGUMENT if an argument is out of range";

    private SeatsEdgesTest() {
    }

    public static void main(String[] args) {
        newObject();
        setWithinRanges();
        setOutOfRange();
        oracleWithinRanges();
        oracleOutOfRange();
        oracleLimit();
        oracleAnew();
        seatReturns();
        seatLowestFree();
        seatErrors();
        seatFull();
        standReturns();
        standAndSit();
        standErrors();
        giveWithinRanges();
        giveOutOfRange();
        giveLimit();
        giveLimitAboveByOtherWays();
        lendWithinRanges();
        lendOutOfRange();
        lendFewerCoins();
        lendLimit();
        branchWithinRanges();
        branchOutOfRange();
        branchReturns();
        CHECKS.end();
    }

    // ---- Promise 1

    private static void newObject() {
        about("Promise 1", "Creates booths without oracles; the house has no coins");
        Run x = new Run();
        for (int what = 0; what <= 10; what++) {
            int each = what;
            read(x, "count(" + what + ")", () -> x.count(each), 0);
        }
        refused(x, "oracleOf", () -> x.oracleOf(0, 0), INVALID);
        refused(x, "counter", () -> x.counter(0, 0), INVALID);
        refused(x, "seat", () -> x.seat(0, 0), INVALID);
        refused(x, "stand", () -> x.stand(0), INVALID);
        refused(x, "give", () -> x.give(0, 1), INVALID);
        refused(x, "lend", () -> x.lend(0, 1, 1), INVALID);
        refused(x, "loanOf", () -> x.loanOf(0, 0), INVALID);
        refused(x, "rich", () -> x.rich(0), NOT_FOUND);
        refused(x, "odds", () -> x.odds(0), NOT_FOUND);
        refused(x, "fault", () -> x.fault(0), NOT_FOUND);
        refused(x, "undo", x::undo, NOT_POSSIBLE);
        read(x, "clearText", x::clearText, 0);
        undone(x, "branch", () -> x.branch(63, 1), 0);
        undone(x, "play", x::play, 0);
        due("the first oracle", x.oracle(4, 0, 1), 0);
        for (int booth = 0; booth <= 2; booth++) {
            Run y = new Run();
            y.oracle(booth == 1 ? 1 : 0, 0, 1);
            due("the first one in booth " + booth, y.seat(0, booth), 1);
            due("its seat", y.oracleOf(0, 4), 0);
        }
    }

    // ---- Promise 2

    private static void setWithinRanges() {
        about("Promise 2, set", "Returns what it was");
        int[] first = {5, 10, 50};
        int[] least = {1, 0, 0};
        int[] most = {50, 50, 100};
        for (int what = 0; what <= 2; what++) {
            Run x = busy();
            int each = what;
            undone(x, "the least", () -> x.set(each, least[each]), first[what]);
            undone(x, "the most", () -> x.set(each, most[each]), first[what]);
            due("set", x.set(what, most[what]), first[what]);
            due("the setting", x.count(20 + what), most[what]);
            due("set", x.set(what, least[what]), most[what]);
            due("the setting", x.count(20 + what), least[what]);
            due("set", x.set(what, least[what]), least[what]);
            for (int other = 0; other <= 2; other++) {
                due("setting " + other, x.count(20 + other), other == what ? least[what] : first[other]);
            }
        }
    }

    private static void setOutOfRange() {
        about("Promise 2, set", OUT_OF_RANGE);
        Run x = busy();
        for (int what : outside(0, 2)) {
            refused(x, "set(" + what + ", 1)", () -> x.set(what, 1), INVALID);
        }
        int[] least = {1, 0, 0};
        int[] most = {50, 50, 100};
        for (int what = 0; what <= 2; what++) {
            int each = what;
            for (int value : outside(least[what], most[what])) {
                refused(x, "set(" + what + ", " + value + ")", () -> x.set(each, value), INVALID);
            }
        }
        refused(x, "both out of range", () -> x.set(3, 101), INVALID);
    }

    // ---- Promise 3

    private static void oracleWithinRanges() {
        about("Promise 3, oracle", "Adds an oracle, without a seat");
        int[] most = {1, 5, 5, 5, 0};
        for (int kind = 0; kind <= 4; kind++) {
            for (int number = 0; number <= most[kind]; number++) {
                for (int purse = 0; purse <= 9999; purse += 9999) {
                    Run x = new Run();
                    due("oracle", x.oracle(kind, number, purse), 0);
                    int[] wanted = {kind, number, purse, NOT_FOUND, NOT_FOUND, 0, 0, 0, 0, 0, 0};
                    for (int what = 0; what < wanted.length; what++) {
                        due("oracleOf " + what, x.oracleOf(0, what), wanted[what]);
                    }
                    due("those that have a seat", x.count(1), 0);
                    due("those that are ruined", x.count(2), purse == 0 ? 1 : 0);
                    due("all coins", x.count(4), purse);
                }
            }
        }
    }

    private static void oracleOutOfRange() {
        about("Promise 3, oracle", OUT_OF_RANGE);
        Run x = busy();
        for (int kind : outside(0, 4)) {
            refused(x, "kind " + kind, () -> x.oracle(kind, 0, 5), INVALID);
        }
        int[] most = {1, 5, 5, 5, 0};
        for (int kind = 0; kind <= 4; kind++) {
            int each = kind;
            for (int number : outside(0, most[kind])) {
                refused(x, "kind " + kind + ", number " + number, () -> x.oracle(each, number, 5), INVALID);
            }
            for (int purse : outside(0, 9999)) {
                refused(x, "kind " + kind + ", purse " + purse, () -> x.oracle(each, 0, purse), INVALID);
            }
        }
        refused(x, "all out of range", () -> x.oracle(-1, 6, 10000), INVALID);
    }

    private static void oracleLimit() {
        about("Promise 3, oracle", "LIMIT_REACHED if there are 6");
        for (int kind = 0; kind <= 4; kind++) {
            Run x = busy();
            int each = kind;
            due("a sixth", x.oracle(kind, 0, 9999), 5);
            refused(x, "a seventh", () -> x.oracle(each, 0, 0), LIMIT);
            refused(x, "a seventh, the most", () -> x.oracle(each, 0, 9999), LIMIT);
            due("oracles", x.count(0), 6);
            due("its kind", x.oracleOf(5, 0), kind);
        }
    }

    private static void oracleAnew() {
        about("Promise 3, oracle", "Adds an oracle, without a seat", "in the place of one whose coming is undone");
        for (int kind = 0; kind <= 4; kind++) {
            Run x = rivals(10, 100);
            x.oracle(1, 0, 5);
            x.seat(2, 1);
            branches(x, 0, "01");
            for (int what = 5; what <= 8; what++) {
                due("it was right, wrong and ruined, oracleOf " + what, x.oracleOf(2, what), what == 7 ? 2 : 1);
            }
            for (int i = 0; i < 4; i++) {
                x.undo();
            }
            due("oracles", x.count(0), 2);
            due("oracle", x.oracle(kind, 0, 7), 2);
            int[] wanted = {kind, 0, 7, NOT_FOUND, NOT_FOUND, 0, 0, 0, 0, 0, 0};
            for (int what = 0; what < wanted.length; what++) {
                due("oracleOf " + what, x.oracleOf(2, what), wanted[what]);
            }
            due("its counter", x.counter(2, 0), kind >= 1 && kind <= 3 ? 1 : NOT_FOUND);
        }
    }

    // ---- Promise 4

    private static void seatReturns() {
        about("Promise 4, seat", "Returns how many oracles have a seat in this booth then");
        Run x = new Run();
        for (int i = 0; i < 6; i++) {
            x.oracle(i / 2 == 1 ? 1 : 0, 0, i);
        }
        int[] guests = {4, 0, 2, 5, 1, 3};
        int[] booths = {2, 0, 1, 2, 0, 1};
        int[] sitting = {1, 1, 1, 2, 2, 2};
        for (int i = 0; i < 6; i++) {
            int each = i;
            undone(x, "seat", () -> x.seat(guests[each], booths[each]), sitting[i]);
            due("seat", x.seat(guests[i], booths[i]), sitting[i]);
            due("its booth", x.oracleOf(guests[i], 3), booths[i]);
            due("its seat", x.oracleOf(guests[i], 4), sitting[i] - 1);
            due("those that have a seat", x.count(1), i + 1);
        }
    }

    private static void seatLowestFree() {
        about("Promise 4, seat", "Gives an oracle a seat, the lowest one that is free");
        for (int booth = 0; booth <= 2; booth++) {
            Run x = new Run();
            for (int i = 0; i < 4; i++) {
                x.oracle(booth == 1 ? 3 : 0, 0, 10);
            }
            due("both are free", x.seat(3, booth) + x.oracleOf(3, 4), 1);
            due("seat 1 is free", x.seat(0, booth) + x.oracleOf(0, 4), 2 + 1);
            x.stand(3);
            due("seat 0 is free", x.seat(1, booth) + x.oracleOf(1, 4), 2);
            due("the other one stays", x.oracleOf(0, 4), 1);
            x.stand(0);
            due("seat 1 is free again", x.seat(2, booth) + x.oracleOf(2, 4), 2 + 1);
            x.stand(1);
            x.stand(2);
            due("both are free again", x.seat(0, booth) + x.oracleOf(0, 4), 1);
        }
    }

    private static void seatErrors() {
        about("Promise 4, seat", "INVALID_ARGUMENT if an argument is out of range; NOT_POSSIBLE if it has a seat, or "
                + "the booth does not take its kind");
        Run x = busy();
        for (int booth : outside(0, 2)) {
            refused(x, "booth " + booth, () -> x.seat(4, booth), INVALID);
        }
        refused(x, "both out of range", () -> x.seat(5, 3), INVALID);
        for (int guest = 0; guest <= 3; guest++) {
            int each = guest;
            for (int booth = 0; booth <= 2; booth++) {
                int to = booth;
                refused(x, guest + " has a seat, booth " + booth, () -> x.seat(each, to), NOT_POSSIBLE);
            }
        }
        refused(x, "booth 1 for a fixed one", () -> x.seat(4, 1), NOT_POSSIBLE);
        x.stand(0);
        x.stand(1);
        x.stand(2);
        refused(x, "booth 1 for a fixed one, a seat is free", () -> x.seat(4, 1), NOT_POSSIBLE);
        refused(x, "booth 0 for a table", () -> x.seat(1, 0), NOT_POSSIBLE);
        refused(x, "booth 0 for a contrary one", () -> x.seat(2, 0), NOT_POSSIBLE);
        refused(x, "booth 1 for a contrary one", () -> x.seat(2, 1), NOT_POSSIBLE);
        undone(x, "a ruined one may sit", () -> x.seat(4, 0), 1);
    }

    private static void seatFull() {
        about("Promise 4, seat", "LIMIT_REACHED if the booth is full");
        Run x = busy();
        x.oracle(2, 3, 10);
        refused(x, "a third one in booth 1", () -> x.seat(5, 1), LIMIT);
        due("booth 2 has room", x.seat(5, 2), 2);
        refused(x, "a third one in booth 2", () -> x.seat(4, 2), LIMIT);
        due("booth 0 has room", x.seat(4, 0), 2);
        x.stand(4);
        x.stand(2);
        due("booth 2 has room again", x.seat(4, 2), 2);
        refused(x, "a third one again", () -> x.seat(2, 2), LIMIT);
    }

    // ---- Promise 5

    private static void standReturns() {
        about("Promise 5, stand", "its seat is free then .. Returns the booth in which it sat");
        Run x = busy();
        int[] booths = {0, 1, 2, 1};
        for (int oracle = 0; oracle < 4; oracle++) {
            int each = oracle;
            undone(x, "stand", () -> x.stand(each), booths[oracle]);
            due("stand", x.stand(oracle), booths[oracle]);
            due("its booth", x.oracleOf(oracle, 3), NOT_FOUND);
            due("its seat", x.oracleOf(oracle, 4), NOT_FOUND);
            due("those that have a seat", x.count(1), 3 - oracle);
        }
        due("seat", x.seat(3, 1), 1);
        due("the seat that was free", x.oracleOf(3, 4), 0);
    }

    private static void standAndSit() {
        about("Promise 5, stand", "Lets an oracle stand up", "what is not its seat stays");
        Run x = busy();
        String before = View.ofState(x);
        int[] booths = {0, 1, 2, 1};
        for (int oracle = 3; oracle >= 0; oracle--) {
            due("stand", x.stand(oracle), booths[oracle]);
            CHECKS.that("a stake without a seat", x.stake(oracle, 0) == 0);
            x.seat(oracle, booths[oracle]);
            CHECKS.that("more than a seat has changed", View.ofState(x).equals(before));
        }
    }

    private static void standErrors() {
        about("Promise 5, stand", "INVALID_ARGUMENT; NOT_POSSIBLE if it has no seat");
        Run x = busy();
        for (int oracle : outside(0, 4)) {
            refused(x, "oracle " + oracle, () -> x.stand(oracle), INVALID);
        }
        refused(x, "one that never sat", () -> x.stand(4), NOT_POSSIBLE);
        x.stand(1);
        refused(x, "one that stands", () -> x.stand(1), NOT_POSSIBLE);
        due("the other one in its booth", x.stand(3), 1);
    }

    // ---- Promise 6

    private static void giveWithinRanges() {
        about("Promise 6, give", "coins: 1 to 9999 .. Returns its purse then");
        Run x = busy();
        undone(x, "the least", () -> x.give(4, 1), 1);
        undone(x, "the most", () -> x.give(4, 9999), 9999);
        due("give", x.give(4, 1), 1);
        due("give", x.give(4, 9999), 10000);
        due("all coins", x.count(4), 199 + 10000);
        due("the house", x.count(3), 9);
        due("ruined ones", x.count(2), 1);
    }

    private static void giveOutOfRange() {
        about("Promise 6, give", OUT_OF_RANGE);
        Run x = busy();
        for (int oracle = 0; oracle <= 4; oracle += 4) {
            int each = oracle;
            for (int coins : outside(1, 9999)) {
                refused(x, "coins " + coins, () -> x.give(each, coins), INVALID);
            }
        }
        refused(x, "both out of range", () -> x.give(5, 0), INVALID);
    }

    /** One oracle, with so many coins, by gifts. */
    private static Run wealthy(int coins) {
        Run x = new Run();
        x.oracle(0, 1, 9999);
        for (int left = coins - 9999; left > 0; left -= 9999) {
            x.give(0, Math.min(left, 9999));
        }
        due("coins", x.oracleOf(0, 2), coins);
        return x;
    }

    private static void giveLimit() {
        about("Promise 6, give", "LIMIT_REACHED if it would be above 100000");
        Run x = wealthy(99999);
        refused(x, "2 to 99999", () -> x.give(0, 2), LIMIT);
        refused(x, "9999 to 99999", () -> x.give(0, 9999), LIMIT);
        undone(x, "1 to 99999", () -> x.give(0, 1), 100000);
        due("1 to 99999", x.give(0, 1), 100000);
        refused(x, "1 to 100000", () -> x.give(0, 1), LIMIT);
        refused(x, "0 to 100000", () -> x.give(0, 0), INVALID);
        refused(x, "10000 to 100000", () -> x.give(0, 10000), INVALID);
        Run y = wealthy(90001);
        undone(y, "9999 to 90001", () -> y.give(0, 9999), 100000);
        Run z = wealthy(90002);
        refused(z, "9999 to 90002", () -> z.give(0, 9999), LIMIT);
        undone(z, "9998 to 90002", () -> z.give(0, 9998), 100000);
    }

    private static void giveLimitAboveByOtherWays() {
        about("Promise 6, give", "LIMIT_REACHED if it would be above 100000", "a loan and a bet may go above it");
        Run x = wealthy(100000);
        x.oracle(0, 0, 9999);
        undone(x, "lend", () -> x.lend(1, 0, 9900), 0);
        x.lend(1, 0, 9900);
        due("purse", x.oracleOf(0, 2), 109900);
        refused(x, "1 to 109900", () -> x.give(0, 1), LIMIT);
        x.undo();
        x.seat(0, 0);
        x.seat(1, 0);
        due("branch", x.branch(0, 1), 5);
        due("purse", x.oracleOf(0, 2), 100005);
        refused(x, "1 to 100005", () -> x.give(0, 1), LIMIT);
        branches(x, 0, "00");
        due("purse", x.oracleOf(0, 2), 99995);
        refused(x, "6 to 99995", () -> x.give(0, 6), LIMIT);
        undone(x, "5 to 99995", () -> x.give(0, 5), 100000);
    }

    // ---- Promise 7

    private static void lendWithinRanges() {
        about("Promise 7, lend", "coins: 1 to 9999 .. Returns the number of the loan");
        Run x = new Run();
        x.oracle(0, 1, 9999);
        x.oracle(4, 0, 1);
        undone(x, "the most", () -> x.lend(0, 1, 9999), 0);
        undone(x, "the least", () -> x.lend(0, 1, 1), 0);
        due("all that it has", x.lend(1, 0, 1), 0);
        purses(x, 0, 10000, 0);
        due("lend", x.lend(0, 1, 9999), 1);
        purses(x, 0, 1, 9999);
        owed(x, 1, 9999);
        int[][] loans = {{1, 0, 1}, {0, 1, 9999}};
        for (int loan = 0; loan < 2; loan++) {
            for (int what = 0; what <= 2; what++) {
                due("loan " + loan + ", " + what, x.loanOf(loan, what), loans[loan][what]);
            }
        }
        due("ruined", x.count(2), 0);
    }

    private static void lendOutOfRange() {
        about("Promise 7, lend", "INVALID_ARGUMENT if an argument is out of range or both are the same");
        Run x = busy();
        for (int coins : outside(1, 9999)) {
            refused(x, "coins " + coins, () -> x.lend(0, 1, coins), INVALID);
        }
        for (int oracle = 0; oracle <= 4; oracle++) {
            int each = oracle;
            refused(x, "to itself: " + oracle, () -> x.lend(each, each, 1), INVALID);
        }
        refused(x, "all out of range", () -> x.lend(5, -1, 0), INVALID);
    }

    private static void lendFewerCoins() {
        about("Promise 7, lend", "NOT_POSSIBLE if the creditor has fewer coins");
        Run x = busy();
        refused(x, "75 of 74", () -> x.lend(0, 1, 75), NOT_POSSIBLE);
        refused(x, "9999 of 74", () -> x.lend(0, 1, 9999), NOT_POSSIBLE);
        refused(x, "1 of 0", () -> x.lend(4, 1, 1), NOT_POSSIBLE);
        undone(x, "74 of 74", () -> x.lend(0, 1, 74), 3);
        undone(x, "73 of 74", () -> x.lend(0, 1, 73), 3);
        due("74 of 74", x.lend(0, 3, 74), 3);
        purses(x, 9, 0, 40, 76, 74, 0);
        due("it is ruined, but by no branch", x.oracleOf(0, 8), 0);
        refused(x, "1 of 0", () -> x.lend(0, 1, 1), NOT_POSSIBLE);
    }

    private static void lendLimit() {
        about("Promise 7, lend", "LIMIT_REACHED if there are 8 loans");
        Run x = busy();
        for (int loan = 3; loan <= 7; loan++) {
            due("lend", x.lend(2, 4, 1), loan);
        }
        due("loans", x.count(8), 8);
        refused(x, "a ninth, of the same two", () -> x.lend(2, 4, 1), LIMIT);
        refused(x, "a ninth, of two others", () -> x.lend(0, 3, 74), LIMIT);
        x.undo();
        due("an eighth again", x.lend(0, 3, 74), 7);
        refused(x, "a ninth again", () -> x.lend(2, 4, 1), LIMIT);
    }

    // ---- Promise 8

    private static void branchWithinRanges() {
        about("Promise 8, branch", "address: 0 to 63 .. taken: 1 or 0");
        for (int address = 0; address <= 63; address += 63) {
            for (int taken = 0; taken <= 1; taken++) {
                Run x = new Run();
                x.oracle(1, 5, 1);
                int to = address;
                int way = taken;
                undone(x, "branch", () -> x.branch(to, way), 0);
                due("branch", x.branch(address, taken), 0);
                due("history", x.count(5), taken);
                due("branches", x.count(6), 1);
                due("counter", x.counter(0, address == 0 ? 0 : 31), taken == 1 ? 2 : 0);
                due("aliases of the one behind it", x.aliases(0, address ^ 32), 1);
                due("aliases of itself", x.aliases(0, address), 0);
            }
        }
    }

    private static void branchOutOfRange() {
        about("Promise 8, branch", OUT_OF_RANGE);
        Run x = busy();
        for (int address : outside(0, 63)) {
            refused(x, "address " + address, () -> x.branch(address, 1), INVALID);
            refused(x, "address " + address + ", not taken", () -> x.branch(address, 0), INVALID);
        }
        for (int taken : outside(0, 1)) {
            refused(x, "taken " + taken, () -> x.branch(0, taken), INVALID);
            refused(x, "taken " + taken + ", address 63", () -> x.branch(63, taken), INVALID);
        }
        refused(x, "both out of range", () -> x.branch(64, 2), INVALID);
    }

    private static void branchReturns() {
        about("Promise 8, branch", "Returns the coins that all of those that were wrong have paid together, 0 if "
                + "there was no bet");
        Run x = new Run();
        due("nobody", x.branch(0, 1), 0);
        x.oracle(0, 1, 9999);
        x.oracle(0, 0, 9999);
        x.oracle(0, 1, 9999);
        x.oracle(0, 1, 3);
        x.seat(0, 0);
        due("one alone, wrong", x.branch(0, 0), 0);
        due("one alone, right", x.branch(0, 1), 0);
        x.seat(1, 0);
        due("one of two", x.branch(0, 1), 5);
        due("the other one of two", x.branch(0, 0), 5);
        x.seat(2, 2);
        x.seat(3, 2);
        due("three of four", x.branch(0, 0), 13);
        due("two of three, one is ruined", x.branch(0, 0), 10);
        x.set(0, 50);
        due("two of three", x.branch(0, 0), 100);
        x.set(1, 50);
        due("the cut of the house included", x.branch(0, 0), 100);
        due("bets", x.count(7), 6);
        due("branches", x.count(6), 9);
    }
}
