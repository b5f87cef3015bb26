/** The boundary cases of the sections "Bets" and "Loans": stakes, the house, creditors, records, learning. */
public final class BetsEdgesTest extends TestBase {
    private BetsEdgesTest() {
    }

    public static void main(String[] args) {
        stakeOrPurse();
        stakeTwice();
        stakeNeverTwice();
        noBetWithoutTwoSides();
        betOfOneCoin();
        cutOfAllStakesTogether();
        cutAtItsEnds();
        leftOver();
        nothingGot();
        creditorsOneCoin();
        creditorsInTheirOrder();
        creditorsShareAtItsEnds();
        creditorsOfLosers();
        creditorsKeepTheirs();
        creditorRuinedAhead();
        creditorEmptiedAndPaid();
        recordOfSixteen();
        recordOfThoseInPlay();
        countersAtTheirEnds();
        allTablesLearn();
        learnAheadOfHistory();
        eightLoans();
        loansGone();
        CHECKS.end();
    }

    // ---- Bets: stakes

    private static void stakeOrPurse() {
        about("Bets", "the unit .. or its purse, if that is less");
        for (int unit : new int[] {1, 5, 50}) {
            Run x = new Run();
            x.set(0, unit);
            x.oracle(0, 1, unit - 1);
            x.seat(0, 0);
            due("a purse of 1 less than the unit", x.stake(0, 0), unit - 1);
            x.give(0, 1);
            due("a purse of the unit", x.stake(0, 0), unit);
            x.give(0, 1);
            due("a purse of 1 more than the unit", x.stake(0, 0), unit);
        }
    }

    private static void stakeTwice() {
        about("Bets", "twice the unit if it has a table and its counter is 0 or 3; or its purse, if that is less");
        for (int unit : new int[] {1, 5, 50}) {
            for (String ways : new String[] {"0", "11"}) {
                Run x = new Run();
                x.set(0, unit);
                x.oracle(1, 0, 2 * unit - 1);
                branches(x, 0, ways);
                x.seat(0, 1);
                String call = "unit " + unit + ", counter " + x.counter(0, 0);
                due(call + ", a purse of 1 less than twice", x.stake(0, 0), 2 * unit - 1);
                x.give(0, 1);
                due(call + ", a purse of twice the unit", x.stake(0, 0), 2 * unit);
                x.give(0, 1);
                due(call + ", a purse of 1 more", x.stake(0, 0), 2 * unit);
            }
        }
    }

    private static void stakeNeverTwice() {
        about("Bets", "but twice the unit if it has a table and its counter is 0 or 3", "not 1 or 2, no other kind");
        for (int kind = 0; kind <= 4; kind++) {
            Run x = new Run();
            x.oracle(kind, 0, 100);
            x.seat(0, 2);
            boolean table = kind >= 1 && kind <= 3;
            due("kind " + kind + ", counter 1", x.stake(0, 0), 5);
            x.branch(0, 1);
            due("kind " + kind + ", counter 2", x.stake(0, 0), 5);
            x.branch(0, 1);
            due("kind " + kind + ", counter 3", x.stake(0, 0), table ? 10 : 5);
            branches(x, 0, "00");
            due("kind " + kind + ", counter 1 again", x.stake(0, 0), 5);
            x.branch(0, 0);
            due("kind " + kind + ", counter 0", x.stake(0, 0), table ? 10 : 5);
        }
    }

    // ---- Bets: who bets, the house

    private static void noBet(Run x, String call, int address, int taken) {
        String purses = x.again().oracleOf(0, 2) + " " + x.again().oracleOf(1, 2) + " " + x.again().count(3);
        int bets = x.count(7);
        int branches = x.count(6);
        due(call, x.branch(address, taken), 0);
        due(call + ": bets", x.count(7), bets);
        due(call + ": branches", x.count(6), branches + 1);
        CHECKS.that(call + ": coins are as they were",
                purses.equals(x.oracleOf(0, 2) + " " + x.oracleOf(1, 2) + " " + x.count(3)));
    }

    private static void noBetWithoutTwoSides() {
        about("Bets", "If some of them say 1 and some say 0, they bet");
        noBet(new Run(), "nobody there", 0, 1);
        Run x = new Run();
        x.oracle(0, 1, 20);
        x.oracle(0, 0, 20);
        noBet(x, "nobody has a seat", 0, 1);
        x.seat(0, 0);
        noBet(x, "one alone, right", 0, 1);
        noBet(x, "one alone, wrong", 0, 0);
        x.oracle(0, 1, 20);
        x.seat(2, 2);
        noBet(x, "all say 1", 0, 1);
        noBet(x, "all say 1", 0, 0);
        x.seat(1, 0);
        due("one says 0", x.branch(0, 1), 5);
        x.lend(1, 0, 15);
        noBet(x, "the one that says 0 is ruined", 0, 1);
        x.stand(0);
        x.stand(2);
        x.give(1, 1);
        noBet(x, "all say 0", 0, 0);
        noBet(x, "all say 0", 0, 1);
        due("bets", x.count(7), 1);
    }

    private static void betOfOneCoin() {
        about("Bets", "each of those that are wrong pays its stake", "1 coin");
        Run x = rivals(1, 1);
        due("branch", x.branch(0, 1), 1);
        purses(x, 0, 2, 0);
        due("bets", x.count(7), 1);
        noBet(x, "the other one is ruined", 0, 0);
        Run y = rivals(1, 9999);
        y.set(0, 50);
        due("branch", y.branch(0, 1), 50);
        purses(y, 5, 46, 9949);
        due("branch", y.branch(0, 0), 46);
        purses(y, 9, 0, 9991);
    }

    private static void cutOfAllStakesTogether() {
        about("Bets", "The house takes its cut of all of these stakes together");
        Run x = rivals(100, 100);
        x.oracle(0, 0, 100);
        x.seat(2, 2);
        due("branch", x.branch(0, 1), 10);
        purses(x, 1, 109, 95, 95);
        x.set(0, 19);
        due("branch", x.branch(0, 1), 38);
        purses(x, 1 + 3, 109 + 35, 76, 76);
        x.set(0, 15);
        x.set(1, 33);
        due("branch", x.branch(0, 1), 30);
        purses(x, 4 + 9, 144 + 21, 61, 61);
    }

    /** The winner of a bet with such a stake and cut gets so much, and the house the rest. */
    private static void cut(int stake, int cut, int house) {
        Run x = rivals(100, 100);
        x.set(0, stake);
        x.set(1, cut);
        due("branch", x.branch(0, 0), stake);
        purses(x, house, 100 - stake, 100 + stake - house);
    }

    private static void cutAtItsEnds() {
        about("Bets", "The house takes its cut", "in hundredths, 0 to 50, rounded down");
        cut(50, 0, 0);
        cut(50, 1, 0);
        cut(50, 2, 1);
        cut(50, 3, 1);
        cut(50, 49, 24);
        cut(50, 50, 25);
        cut(1, 50, 0);
        cut(2, 50, 1);
        cut(3, 50, 1);
        cut(9, 10, 0);
        cut(10, 10, 1);
        cut(19, 10, 1);
        cut(20, 10, 2);
    }

    private static void leftOver() {
        about("Bets", "each one gets what is left times its own stake, divided by the stakes of all that are right. "
                + "What is left over goes to the house, too");
        Run x = new Run();
        x.oracle(0, 1, 100);
        x.oracle(0, 1, 4);
        x.oracle(0, 1, 3);
        x.oracle(0, 0, 100);
        x.set(1, 0);
        x.set(0, 5);
        x.seat(0, 0);
        x.seat(1, 0);
        x.seat(2, 2);
        x.seat(3, 2);
        due("5 coins for 5, 4 and 3 of 12", x.branch(0, 1), 5);
        purses(x, 1, 102, 5, 4, 95);
        x.stand(1);
        x.stand(2);
        due("nothing is left over", x.branch(0, 1), 5);
        purses(x, 1, 107, 5, 4, 90);
        Run y = new Run();
        y.oracle(0, 1, 100);
        y.oracle(0, 0, 100);
        y.oracle(1, 0, 100);
        branches(y, 0, "11");
        y.seat(0, 0);
        y.seat(1, 0);
        y.seat(2, 1);
        y.set(0, 10);
        due("a cut of 1, 9 coins for 10 and 20 of 30", y.branch(0, 1), 10);
        purses(y, 1, 103, 90, 106);
        y.set(0, 11);
        due("a cut of 1, 10 coins for 11 and 22 of 33", y.branch(0, 1), 11);
        purses(y, 3, 106, 79, 112);
    }

    private static void nothingGot() {
        about("Bets", "each one gets what is left times its own stake, divided by the stakes of all that are "
                + "right", "5 times 1, divided by 51");
        Run x = rivals(0, 5);
        x.oracle(0, 1, 50);
        x.oracle(0, 0, 1);
        x.seat(2, 2);
        x.set(0, 50);
        x.set(1, 0);
        x.set(2, 100);
        x.lend(3, 0, 1);
        due("branch", x.branch(0, 1), 5);
        purses(x, 1, 1, 0, 54, 0);
        owed(x, 1);
        due("it was right", x.oracleOf(0, 5), 1);
    }

    // ---- Bets: creditors

    /** Oracle 0 wins 9 coins from oracle 1, and oracle 2, who has 100 coins and no seat, may be its creditor. */
    private static Run winnerOfNine() {
        Run x = rivals(50, 50);
        x.oracle(0, 1, 100);
        x.set(0, 10);
        return x;
    }

    private static void creditorsOneCoin() {
        about("Bets", "each as far as is needed, and not more than the share");
        int[] paid = {1, 2, 3, 4, 4, 4};
        for (int coins = 1; coins <= 6; coins++) {
            Run x = winnerOfNine();
            x.lend(2, 0, coins);
            due("branch", x.branch(0, 1), 10);
            int back = paid[coins - 1];
            purses(x, 1, 50 + coins + 9 - back, 40, 100 - coins + back);
            due("loans, of " + coins, x.count(8), coins <= 4 ? 0 : 1);
            due("owed, of " + coins, x.oracleOf(0, 9), coins - back);
            due("owed to it, of " + coins, x.oracleOf(2, 10), coins - back);
        }
    }

    private static void creditorsInTheirOrder() {
        about("Bets", "for the loans that it owes, from the first one on");
        Run x = winnerOfNine();
        x.oracle(0, 1, 100);
        x.lend(3, 1, 2);
        x.lend(2, 0, 3);
        x.lend(3, 0, 5);
        x.lend(2, 0, 6);
        purses(x, 0, 64, 52, 91, 93);
        x.branch(0, 1);
        purses(x, 1, 69, 42, 94, 94);
        owed(x, 2, 4, 6);
        x.branch(0, 1);
        purses(x, 2, 74, 32, 94, 98);
        owed(x, 2, 6);
        x.branch(0, 1);
        purses(x, 3, 79, 22, 98, 98);
        owed(x, 2, 2);
        x.branch(0, 1);
        purses(x, 4, 86, 12, 100, 98);
        owed(x, 2);
        due("the loan of the other one", x.loanOf(0, 1), 1);
        x.branch(0, 0);
        purses(x, 5, 76, 19, 100, 100);
        owed(x);
    }

    private static void creditorsShareAtItsEnds() {
        about("Bets", "the share for creditors of what it has got", "in hundredths, 0 to 100, rounded down");
        int[][] sharesAndCoins = {{0, 0}, {1, 0}, {11, 0}, {12, 1}, {22, 1}, {23, 2}, {99, 8}, {100, 9}};
        for (int[] each : sharesAndCoins) {
            Run x = winnerOfNine();
            x.set(2, each[0]);
            x.lend(2, 0, 20);
            due("branch", x.branch(0, 1), 10);
            purses(x, 1, 79 - each[1], 40, 80 + each[1]);
            owed(x, 20 - each[1]);
        }
        Run y = winnerOfNine();
        y.set(2, 0);
        y.lend(2, 0, 1);
        y.branch(0, 1);
        owed(y, 1);
        Run z = winnerOfNine();
        z.set(2, 100);
        z.lend(2, 0, 9);
        z.branch(0, 1);
        purses(z, 1, 59, 40, 100);
        owed(z);
    }

    private static void creditorsOfLosers() {
        about("Bets", "An oracle that gets something so pays its creditors", "one that is wrong does not");
        Run x = winnerOfNine();
        x.set(2, 100);
        x.lend(2, 1, 5);
        x.lend(0, 1, 5);
        x.branch(0, 1);
        purses(x, 1, 54, 50, 95);
        owed(x, 5, 5);
        x.stand(0);
        noBet(x, "nor does one that is right without a bet", 0, 0);
        owed(x, 5, 5);
    }

    private static void creditorsKeepTheirs() {
        about("Bets", "what these get so is theirs whole");
        Run x = rivals(50, 50);
        x.oracle(0, 1, 50);
        x.oracle(0, 0, 100);
        x.seat(2, 2);
        x.set(0, 10);
        x.set(1, 0);
        x.set(2, 100);
        Run y = x.again();
        x.lend(2, 0, 30);
        x.lend(3, 2, 40);
        due("a creditor behind the debtor", x.branch(0, 1), 10);
        purses(x, 0, 80, 40, 65, 65);
        owed(x, 25, 35);
        x.stand(2);
        due("a creditor without a seat", x.branch(0, 1), 10);
        purses(x, 0, 80, 30, 75, 65);
        owed(x, 15, 35);
        y.lend(0, 2, 30);
        y.lend(3, 0, 40);
        due("a creditor ahead of the debtor", y.branch(0, 1), 10);
        purses(y, 0, 65, 40, 80, 65);
        owed(y, 25, 35);
    }

    private static void creditorRuinedAhead() {
        about("Bets", "each oracle that has a seat and was not ruined ahead of the branch", "a creditor that was");
        Run x = rivals(50, 50);
        x.oracle(0, 1, 10);
        x.seat(2, 2);
        x.lend(2, 0, 10);
        due("ruined", x.count(2), 1);
        due("branch", x.branch(0, 1), 5);
        purses(x, 0, 63, 45, 2);
        due("not ruined any more", x.count(2), 0);
        int[] untouched = {0, 0, 0, 0};
        for (int i = 0; i < untouched.length; i++) {
            due("oracleOf " + (5 + i), x.oracleOf(2, 5 + i), untouched[i]);
        }
        due("share", x.share(2), NOT_FOUND);
        due("stake", x.stake(2, 0), 2);
        due("branch", x.branch(0, 1), 5);
        due("right by the next one", x.oracleOf(2, 5), 1);
    }

    private static void creditorEmptiedAndPaid() {
        about("Promise 9", "its purse was not empty ahead of it, and was behind all of it");
        for (int loser = 0; loser <= 1; loser++) {
            for (int share = 19; share <= 20; share++) {
                Run x = rivals(loser == 0 ? 15 : 50, loser == 0 ? 50 : 15);
                x.set(2, share);
                x.lend(loser, 1 - loser, 10);
                due("branch", x.branch(0, loser), 5);
                due("purse of " + loser + ", a share of " + share, x.oracleOf(loser, 2), share == 19 ? 0 : 1);
                due("ruins of " + loser + ", a share of " + share, x.oracleOf(loser, 8), share == 19 ? 1 : 0);
                due("ruined", x.count(2), share == 19 ? 1 : 0);
            }
        }
    }

    // ---- Bets: records, learning

    private static void record(String ways, int wanted) {
        Run x = new Run();
        x.oracle(0, 1, 1);
        x.seat(0, 0);
        branches(x, 0, ways);
        due("record of " + ways, x.oracleOf(0, 7), wanted);
        due("right or wrong", x.oracleOf(0, 5) + x.oracleOf(0, 6), ways.length());
    }

    private static void recordOfSixteen() {
        about("Bets", "its record tells for the latest 16 times, as bits, the latest one as bit 0 (1 for right)");
        record("", 0);
        record("0", 0);
        record("1", 1);
        record("01", 1);
        record("10", 2);
        record("1".repeat(15), 0x7FFF);
        record("1".repeat(16), 0xFFFF);
        record("1".repeat(17), 0xFFFF);
        record("1" + "0".repeat(15), 0x8000);
        record("1" + "0".repeat(16), 0);
        record("0" + "1".repeat(15), 0x7FFF);
        record("0" + "1".repeat(16), 0xFFFF);
        record("1".repeat(16) + "0", 0xFFFE);
        record("1".repeat(16) + "0".repeat(16), 0);
        record("1100110011001100" + "1010101010101010", 0xAAAA);
    }

    private static void outcomes(Run x, int oracle, int right, int wrong) {
        due("right of " + oracle, x.oracleOf(oracle, 5), right);
        due("wrong of " + oracle, x.oracleOf(oracle, 6), wrong);
    }

    private static void recordOfThoseInPlay() {
        about("Bets", "each oracle that has a seat and was not ruined ahead of the branch was right or wrong once "
                + "more (also if there was no bet)");
        Run x = rivals(50, 5);
        x.oracle(0, 1, 50);
        x.oracle(0, 0, 0);
        x.seat(3, 2);
        x.branch(0, 1);
        outcomes(x, 0, 1, 0);
        outcomes(x, 1, 0, 1);
        outcomes(x, 2, 0, 0);
        outcomes(x, 3, 0, 0);
        x.branch(0, 1);
        x.branch(0, 0);
        outcomes(x, 0, 2, 1);
        outcomes(x, 1, 0, 1);
        due("bets", x.count(7), 1);
        x.seat(2, 2);
        x.branch(0, 1);
        outcomes(x, 2, 1, 0);
        x.stand(2);
        x.branch(0, 0);
        outcomes(x, 2, 1, 0);
        x.give(3, 1);
        x.branch(0, 0);
        outcomes(x, 3, 1, 0);
        outcomes(x, 0, 3, 3);
    }

    private static void countersAtTheirEnds() {
        about("Bets", "the counter of the branch becomes greater by 1 if it is taken, up to 3, else less by 1, "
                + "down to 0");
        for (int kind = 1; kind <= 3; kind++) {
            Run x = new Run();
            x.oracle(kind, 0, 10);
            String ways = "1111100000001101010";
            String counters = "2333321000001212121";
            for (int i = 0; i < ways.length(); i++) {
                x.branch(7, ways.charAt(i) - '0');
                due("kind " + kind + ", behind branch " + i, x.counter(0, 0), counters.charAt(i) - '0');
            }
        }
    }

    private static void allTablesLearn() {
        about("Bets", "Then all oracles with tables learn, with seats or without, ruined or not");
        Run x = new Run();
        x.oracle(1, 0, 10);
        x.oracle(2, 0, 10);
        x.oracle(3, 0, 0);
        x.oracle(1, 0, 0);
        x.seat(0, 1);
        x.seat(2, 1);
        String counters = "23321000012";
        String ways = "11100000011";
        for (int i = 0; i < ways.length(); i++) {
            x.branch(9, ways.charAt(i) - '0');
            for (int oracle = 0; oracle < 4; oracle++) {
                due("counter of " + oracle + ", branch " + i, x.counter(oracle, 0), counters.charAt(i) - '0');
            }
        }
    }

    private static void learnAheadOfHistory() {
        about("Bets", "and at last the history changes");
        Run x = new Run();
        x.oracle(2, 1, 10);
        x.oracle(3, 1, 10);
        x.branch(1, 1);
        due("by the past, history 0", x.counter(0, 0), 2);
        due("by the past, history 1", x.counter(0, 1), 1);
        due("mixed, 1 xor 0", x.counter(1, 1), 2);
        due("mixed, 1 xor 1", x.counter(1, 0), 1);
        x.branch(1, 0);
        due("by the past, history 1", x.counter(0, 1), 0);
        due("mixed, 1 xor 1", x.counter(1, 0), 0);
    }

    // ---- Loans

    private static void eightLoans() {
        about("Loans", "There are at most 8 loans that are not paid back, numbered from 0");
        Run x = rivals(100, 100);
        x.oracle(0, 0, 100);
        for (int i = 0; i < 8; i++) {
            due("lend", x.lend(2, i == 0 ? 0 : 1, 1 + i), i);
            due("loans", x.count(8), i + 1);
        }
        due("the last loan", x.loanOf(7, 2), 8);
        refused(x, "a ninth loan", () -> x.lend(2, 0, 1), LIMIT);
        refused(x, "loan 8", () -> x.loanOf(8, 2), INVALID);
        x.branch(0, 1);
        owed(x, 2, 3, 4, 5, 6, 7, 8);
        due("room for an eighth", x.lend(2, 0, 1), 7);
        refused(x, "a ninth loan again", () -> x.lend(2, 0, 1), LIMIT);
        x.undo();
        x.undo();
        owed(x, 1, 2, 3, 4, 5, 6, 7, 8);
        refused(x, "a ninth loan behind undo", () -> x.lend(2, 0, 1), LIMIT);
    }

    private static void loansGone() {
        about("Loans", "one that is paid back is gone, and the numbers of those behind it become less by 1");
        Run x = rivals(100, 100);
        x.oracle(0, 1, 500);
        x.set(0, 10);
        x.set(1, 0);
        x.set(2, 100);
        x.lend(2, 1, 10);
        x.lend(2, 0, 10);
        x.lend(2, 1, 7);
        x.lend(2, 0, 10);
        x.lend(2, 1, 3);
        x.branch(0, 1);
        owed(x, 10, 7, 10, 3);
        due("the debtor behind the one that is gone", x.loanOf(1, 1), 1);
        due("the next debtor", x.loanOf(2, 1), 0);
        x.branch(0, 0);
        owed(x, 7, 10, 3);
        x.branch(0, 0);
        owed(x, 10);
        due("the debtor of the last one", x.loanOf(0, 1), 0);
        x.branch(0, 1);
        owed(x);
        refused(x, "the loan that was the last one", () -> x.loanOf(0, 0), INVALID);
        due("all coins", x.count(4), 700);
        x.undo();
        owed(x, 10);
        due("lend", x.lend(0, 2, 4), 1);
        owed(x, 10, 4);
    }
}
