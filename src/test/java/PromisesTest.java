/** Each promise of the document by itself: ordinary inputs, its edges, and wrong inputs. */
public final class PromisesTest extends TestBase {
    private PromisesTest() {
    }

    public static void main(String[] args) {
        constants();
        newObject();
        set();
        oracle();
        oracleAfterUndo();
        seat();
        stand();
        give();
        lend();
        branchWithoutBet();
        branchSharesStakes();
        branchPaysCreditors();
        branchRuins();
        branchRecords();
        branchTeaches();
        branchErrors();
        oracleOf();
        counter();
        loanOf();
        aliases();
        share();
        rich();
        says();
        saysContrary();
        stake();
        odds();
        gain();
        doom();
        bestRow();
        count();
        undo();
        type();
        clearText();
        fault();
        play();
        playErrors();
        CHECKS.end();
    }

    // ---- the promises

    private static void constants() {
        about("constants");
        due("INVALID_ARGUMENT", BranchBets.INVALID_ARGUMENT, INVALID);
        due("NOT_POSSIBLE", BranchBets.NOT_POSSIBLE, NOT_POSSIBLE);
        due("LIMIT_REACHED", BranchBets.LIMIT_REACHED, LIMIT);
        due("NOT_FOUND", BranchBets.NOT_FOUND, NOT_FOUND);
    }

    private static void newObject() {
        about("promise 1");
        Run x = new Run();
        for (int what = 0; what <= 10; what++) {
            due("count " + what, x.count(what), 0);
        }
        due("unit", x.count(20), 5);
        due("cut", x.count(21), 10);
        due("creditors", x.count(22), 50);
        due("oracleOf", x.oracleOf(0, 0), INVALID);
        due("loanOf", x.loanOf(0, 0), INVALID);
        due("rich", x.rich(0), NOT_FOUND);
        due("odds", x.odds(0), NOT_FOUND);
        due("fault", x.fault(0), NOT_FOUND);
        due("undo", x.undo(), NOT_POSSIBLE);
        Run other = new Run();
        x.oracle(0, 0, 9);
        x.set(0, 9);
        x.type('a');
        due("oracles of another object", other.count(0), 0);
        due("unit of another object", other.count(20), 5);
        due("text of another object", other.count(10), 0);
        due("unit of a later object", new Run().count(20), 5);
    }

    private static void set() {
        about("promise 2");
        Run x = new Run();
        int[] least = {1, 0, 0};
        int[] most = {50, 50, 100};
        int[] first = {5, 10, 50};
        for (int what = 0; what < 3; what++) {
            final int w = what;
            undone(x, "set", () -> x.set(w, least[w]), first[w]);
            due("set " + what + " to its least", x.set(what, least[what]), first[what]);
            due("the setting", x.count(20 + what), least[what]);
            due("set " + what + " to its most", x.set(what, most[what]), least[what]);
            due("the setting", x.count(20 + what), most[what]);
            due("set " + what + " to the same", x.set(what, most[what]), most[what]);
            refused(x, "below", () -> x.set(w, least[w] - 1), INVALID);
            refused(x, "above", () -> x.set(w, most[w] + 1), INVALID);
            refused(x, "far below", () -> x.set(w, MIN), INVALID);
            refused(x, "far above", () -> x.set(w, MAX), INVALID);
        }
        refused(x, "set(-1)", () -> x.set(-1, 5), INVALID);
        refused(x, "set(3)", () -> x.set(3, 5), INVALID);
        refused(x, "set(MAX)", () -> x.set(MAX, 5), INVALID);
        refused(x, "set(MIN)", () -> x.set(MIN, 5), INVALID);
        Run y = new Run();
        y.set(2, 50);
        due("a set to the same value is a change", y.count(9), 1);
    }

    private static void oracle() {
        about("promise 3");
        int[] most = {1, 5, 5, 5, 0};
        for (int kind = 0; kind <= 4; kind++) {
            Run x = new Run();
            final int k = kind;
            undone(x, "oracle", () -> x.oracle(k, most[k], 9999), 0);
            due("oracle", x.oracle(kind, most[kind], 9999), 0);
            due("oracle", x.oracle(kind, 0, 0), 1);
            due("its kind", x.oracleOf(0, 0), kind);
            due("its number", x.oracleOf(0, 1), most[kind]);
            due("its purse", x.oracleOf(0, 2), 9999);
            due("its booth", x.oracleOf(0, 3), NOT_FOUND);
            due("its counters", x.counter(0, 0), kind >= 1 && kind <= 3 ? 1 : NOT_FOUND);
            due("the last of its counters", x.counter(0, 31), kind >= 1 && kind <= 3 ? 1 : NOT_FOUND);
            refused(x, "number above", () -> x.oracle(k, most[k] + 1, 5), INVALID);
            refused(x, "number below", () -> x.oracle(k, -1, 5), INVALID);
            refused(x, "number far below", () -> x.oracle(k, MIN, 5), INVALID);
            refused(x, "purse above", () -> x.oracle(k, 0, 10000), INVALID);
            refused(x, "purse below", () -> x.oracle(k, 0, -1), INVALID);
        }
        Run x = new Run();
        refused(x, "kind below", () -> x.oracle(-1, 0, 5), INVALID);
        refused(x, "kind above", () -> x.oracle(5, 0, 5), INVALID);
        refused(x, "kind far above", () -> x.oracle(MAX, 0, 5), INVALID);
        for (int i = 0; i < 6; i++) {
            due("oracle", x.oracle(i % 5, 0, i), i);
        }
        refused(x, "a seventh", () -> x.oracle(0, 0, 5), LIMIT);
        refused(x, "a seventh of no kind", () -> x.oracle(5, 0, 5), INVALID);
        refused(x, "a seventh with no such number", () -> x.oracle(0, 2, 5), INVALID);
        refused(x, "a seventh with no such purse", () -> x.oracle(0, 0, -1), INVALID);
    }

    private static void oracleAfterUndo() {
        about("promise 3, an oracle in the place of one that was undone");
        Run x = rivals(10, 100);
        due("oracle", x.oracle(1, 0, 5), 2);
        x.seat(2, 1);
        x.set(0, 10);
        branches(x, 0, "1");
        due("its purse", x.oracleOf(2, 2), 0);
        due("its ruins", x.oracleOf(2, 8), 1);
        due("its counter", x.counter(2, 0), 2);
        for (int i = 0; i < 4; i++) {
            x.undo();
        }
        due("oracles", x.count(0), 2);
        due("oracle", x.oracle(1, 0, 7), 2);
        int[] fresh = {1, 0, 7, NOT_FOUND, NOT_FOUND, 0, 0, 0, 0, 0, 0};
        for (int what = 0; what < fresh.length; what++) {
            due("oracleOf " + what, x.oracleOf(2, what), fresh[what]);
        }
        due("its counter", x.counter(2, 0), 1);
    }

    private static void seat() {
        about("promise 4");
        Run x = new Run();
        for (int kind = 0; kind <= 4; kind++) {
            x.oracle(kind, 0, 10);
        }
        x.oracle(0, 1, 0);
        for (int i = 1; i <= 4; i++) {
            final int oracle = i;
            refused(x, "booth 0 for kind " + i, () -> x.seat(oracle, 0), NOT_POSSIBLE);
        }
        refused(x, "booth 1 for kind 0", () -> x.seat(0, 1), NOT_POSSIBLE);
        refused(x, "booth 1 for kind 4", () -> x.seat(4, 1), NOT_POSSIBLE);
        for (int i = 0; i <= 4; i++) {
            final int oracle = i;
            undone(x, "booth 2 for kind " + i, () -> x.seat(oracle, 2), 1);
            if (i >= 1 && i <= 3) {
                undone(x, "booth 1 for kind " + i, () -> x.seat(oracle, 1), 1);
            }
        }
        undone(x, "booth 0 for kind 0", () -> x.seat(0, 0), 1);
        refused(x, "booth -1", () -> x.seat(0, -1), INVALID);
        refused(x, "booth 3", () -> x.seat(0, 3), INVALID);
        refused(x, "oracle -1", () -> x.seat(-1, 0), INVALID);
        refused(x, "oracle 6", () -> x.seat(6, 0), INVALID);
        refused(x, "oracle MAX", () -> x.seat(MAX, 0), INVALID);
        due("seat", x.seat(5, 0), 1);
        due("seat", x.seat(0, 0), 2);
        due("the first one's seat", x.oracleOf(5, 4), 0);
        due("the second one's seat", x.oracleOf(0, 4), 1);
        due("its booth", x.oracleOf(0, 3), 0);
        refused(x, "one who sits, in a full booth", () -> x.seat(0, 0), NOT_POSSIBLE);
        refused(x, "one who sits, elsewhere", () -> x.seat(0, 2), NOT_POSSIBLE);
        refused(x, "one who sits, in no booth", () -> x.seat(0, 3), INVALID);
        refused(x, "wrong kind, full booth", () -> x.seat(1, 0), NOT_POSSIBLE);
        due("seat", x.seat(2, 1), 1);
        due("seat", x.seat(3, 1), 2);
        refused(x, "full booth", () -> x.seat(1, 1), LIMIT);
        due("stand", x.stand(2), 1);
        due("seat", x.seat(1, 1), 2);
        due("the lowest free seat", x.oracleOf(1, 4), 0);
        due("the other one's seat", x.oracleOf(3, 4), 1);
        due("seat", x.seat(2, 2), 1);
        due("seat", x.seat(4, 2), 2);
        due("seated", x.count(1), 6);
    }

    private static void stand() {
        about("promise 5");
        Run x = rivals(10, 10);
        x.oracle(2, 0, 10);
        x.seat(2, 2);
        undone(x, "stand", () -> x.stand(2), 2);
        due("stand", x.stand(2), 2);
        due("its booth", x.oracleOf(2, 3), NOT_FOUND);
        due("its seat", x.oracleOf(2, 4), NOT_FOUND);
        refused(x, "stand again", () -> x.stand(2), NOT_POSSIBLE);
        refused(x, "stand(3)", () -> x.stand(3), INVALID);
        refused(x, "stand(-1)", () -> x.stand(-1), INVALID);
        refused(x, "stand(MAX)", () -> x.stand(MAX), INVALID);
        due("stand", x.stand(0), 0);
        due("the other one's seat", x.oracleOf(1, 4), 1);
        due("seat", x.seat(0, 0), 2);
        due("the seat that is free", x.oracleOf(0, 4), 0);
    }

    private static void give() {
        about("promise 6");
        Run x = new Run();
        x.oracle(0, 1, 9999);
        undone(x, "give", () -> x.give(0, 1), 10000);
        due("give", x.give(0, 1), 10000);
        for (int i = 2; i <= 9; i++) {
            due("give", x.give(0, 9999), 10000 + (i - 1) * 9999);
        }
        refused(x, "give too much", () -> x.give(0, 9999 + 10), INVALID);
        due("give", x.give(0, 9999), 99991);
        refused(x, "above 100000", () -> x.give(0, 10), LIMIT);
        due("up to 100000", x.give(0, 9), 100000);
        refused(x, "above 100000", () -> x.give(0, 1), LIMIT);
        refused(x, "give 0", () -> x.give(0, 0), INVALID);
        refused(x, "give 10000", () -> x.give(0, 10000), INVALID);
        refused(x, "give MIN", () -> x.give(0, MIN), INVALID);
        refused(x, "give MAX", () -> x.give(0, MAX), INVALID);
        refused(x, "give to 1", () -> x.give(1, 5), INVALID);
        refused(x, "give to -1", () -> x.give(-1, 5), INVALID);
        due("the house", x.count(3), 0);
    }

    private static void lend() {
        about("promise 7");
        Run x = new Run();
        x.oracle(0, 1, 9999);
        x.oracle(1, 0, 20);
        x.oracle(4, 0, 0);
        undone(x, "lend", () -> x.lend(0, 2, 9999), 0);
        due("lend all", x.lend(1, 2, 20), 0);
        purses(x, 0, 9999, 0, 20);
        due("ruined", x.count(2), 1);
        due("a loan ruins nobody by a branch", x.oracleOf(1, 8), 0);
        due("lend", x.lend(0, 1, 7), 1);
        due("loan 1, creditor", x.loanOf(1, 0), 0);
        due("loan 1, debtor", x.loanOf(1, 1), 1);
        due("loan 1, owed", x.loanOf(1, 2), 7);
        due("loan 0, creditor", x.loanOf(0, 0), 1);
        refused(x, "fewer coins", () -> x.lend(1, 0, 8), NOT_POSSIBLE);
        refused(x, "to itself", () -> x.lend(0, 0, 5), INVALID);
        refused(x, "to itself, fewer coins", () -> x.lend(1, 1, 50), INVALID);
        refused(x, "creditor 3", () -> x.lend(3, 0, 5), INVALID);
        refused(x, "creditor -1", () -> x.lend(-1, 0, 5), INVALID);
        refused(x, "debtor 3", () -> x.lend(0, 3, 5), INVALID);
        refused(x, "debtor -1", () -> x.lend(0, -1, 5), INVALID);
        refused(x, "0 coins", () -> x.lend(0, 1, 0), INVALID);
        refused(x, "10000 coins", () -> x.lend(0, 1, 10000), INVALID);
        refused(x, "10000 coins of one who has not so many", () -> x.lend(1, 0, 10000), INVALID);
        refused(x, "MIN coins", () -> x.lend(0, 1, MIN), INVALID);
        due("lend all again", x.lend(1, 0, 7), 2);
        for (int i = 3; i < 8; i++) {
            due("lend", x.lend(0, 1, 1), i);
        }
        due("loans", x.count(8), 8);
        refused(x, "a ninth loan", () -> x.lend(0, 1, 1), LIMIT);
        refused(x, "a ninth loan, fewer coins", () -> x.lend(1, 0, 6), NOT_POSSIBLE);
        refused(x, "a ninth loan to itself", () -> x.lend(0, 0, 1), INVALID);
        due("all coins", x.count(4), 10019);
        undone(x, "a change with 8 loans", () -> x.give(0, 1), x.oracleOf(0, 2) + 1);
        due("gain with 8 loans", x.gain(0, 0, 1), 0);
    }

    private static void branchWithoutBet() {
        about("promise 8, no bet");
        Run x = new Run();
        undone(x, "branch", () -> x.branch(63, 1), 0);
        due("branch", x.branch(63, 1), 0);
        due("history", x.count(5), 1);
        due("branches", x.count(6), 1);
        due("bets", x.count(7), 0);
        x.oracle(0, 1, 50);
        x.oracle(0, 0, 50);
        x.oracle(1, 0, 50);
        x.seat(0, 0);
        due("one alone, wrong", x.branch(0, 0), 0);
        purses(x, 0, 50, 50, 50);
        due("it was wrong", x.oracleOf(0, 6), 1);
        x.seat(2, 2);
        branches(x, 0, "111");
        due("all say the same and are wrong", x.branch(0, 0), 0);
        due("all say the same and are right", x.branch(0, 1), 0);
        due("bets while the table learnt", x.count(7), 2);
        due("branches", x.count(6), 7);
        Run y = rivals(50, 0);
        due("the other one is ruined", y.branch(0, 1), 0);
        due("the other one is ruined", y.branch(0, 0), 0);
        purses(y, 0, 50, 0);
        due("right", y.oracleOf(0, 5), 1);
        due("wrong", y.oracleOf(0, 6), 1);
        due("right of the ruined one", y.oracleOf(1, 5), 0);
        due("wrong of the ruined one", y.oracleOf(1, 6), 0);
        due("bets", y.count(7), 0);
    }

    private static void branchSharesStakes() {
        about("promise 8, bets");
        Run x = rivals(100, 100);
        x.oracle(1, 0, 100);
        x.oracle(1, 0, 100);
        x.seat(2, 1);
        x.seat(3, 1);
        due("equal stakes, coins left over", x.branch(0, 0), 5);
        purses(x, 2, 95, 101, 101, 101);
        due("double stakes", x.branch(0, 0), 5);
        purses(x, 2, 90, 102, 103, 103);
        due("the cut", x.branch(0, 1), 25);
        purses(x, 4, 113, 97, 93, 93);
        due("bets", x.count(7), 3);
        undone(x, "branch", () -> x.branch(9, 1), 15);
        Run y = rivals(3, 100);
        y.set(0, 50);
        due("a stake is at most the purse", y.branch(0, 0), 3);
        purses(y, 0, 0, 103);
        Run z = rivals(100, 100);
        z.set(0, 50);
        z.set(1, 50);
        due("half of it for the house", z.branch(0, 0), 50);
        purses(z, 25, 50, 125);
        z.set(1, 0);
        due("no cut", z.branch(0, 0), 50);
        purses(z, 25, 0, 175);
        z.set(0, 33);
        z.set(1, 3);
        z.give(0, 500);
        due("0.99 coins of a cut", z.branch(0, 1), 33);
        purses(z, 25, 533, 142);
        z.set(1, 4);
        due("1.32 coins of a cut", z.branch(0, 1), 33);
        purses(z, 26, 565, 109);
        Run u = rivals(500, 500);
        u.set(0, 19);
        due("the cut is rounded down", u.branch(0, 1), 19);
        purses(u, 1, 518, 481);
    }

    private static void branchPaysCreditors() {
        about("promise 8, loans");
        Run x = rivals(20, 100);
        x.oracle(1, 0, 100);
        x.oracle(0, 0, 50);
        x.seat(2, 1);
        x.lend(3, 0, 4);
        x.lend(2, 0, 1);
        x.lend(3, 0, 9);
        x.lend(1, 2, 2);
        purses(x, 0, 34, 98, 101, 37);
        undone(x, "branch", () -> x.branch(0, 1), 10);
        due("branch", x.branch(0, 1), 10);
        purses(x, 1, 39, 93, 96, 41);
        due("loans", x.count(8), 3);
        due("the loan behind the one that is gone", x.loanOf(0, 0), 2);
        due("what is owed", x.loanOf(0, 2), 1);
        due("what is owed", x.loanOf(1, 2), 9);
        due("branch", x.branch(0, 1), 5);
        purses(x, 2, 40, 89, 98, 41);
        due("loans", x.count(8), 2);
        due("what is owed", x.loanOf(0, 2), 9);
        due("what is owed", x.loanOf(1, 2), 1);
        x.set(2, 100);
        due("branch", x.branch(0, 1), 5);
        purses(x, 3, 40, 85, 100, 42);
        due("loans", x.count(8), 1);
        due("creditor", x.loanOf(0, 0), 3);
        due("debtor", x.loanOf(0, 1), 0);
        due("what is owed", x.loanOf(0, 2), 8);
        x.set(2, 0);
        due("branch", x.branch(0, 1), 5);
        due("nothing for creditors", x.loanOf(0, 2), 8);

        Run y = rivals(50, 50);
        y.oracle(0, 0, 50);
        y.set(2, 100);
        y.lend(1, 0, 10);
        y.lend(2, 1, 10);
        due("branch", y.branch(0, 1), 5);
        purses(y, 0, 60, 50, 40);
        due("what is owed", y.loanOf(0, 2), 5);
        due("a creditor keeps what it is paid", y.loanOf(1, 2), 10);

        y.set(0, 3);
        y.set(2, 33);
        due("branch", y.branch(0, 1), 3);
        due("0.99 coins for creditors", y.loanOf(0, 2), 5);
        y.set(2, 34);
        due("branch", y.branch(0, 1), 3);
        due("1.02 coins for creditors", y.loanOf(0, 2), 4);

        Run z = rivals(50, 50);
        z.oracle(0, 0, 50);
        z.set(2, 100);
        z.lend(2, 0, 1);
        z.lend(2, 0, 1);
        z.lend(2, 0, 20);
        due("branch", z.branch(0, 1), 5);
        due("two loans are paid back", z.count(8), 1);
        due("what is owed", z.loanOf(0, 2), 17);
        purses(z, 0, 72 + 5 - 5, 45, 28 + 5);
    }

    private static void branchRuins() {
        about("promise 8, ruin");
        Run x = rivals(50, 5);
        undone(x, "branch", () -> x.branch(0, 1), 5);
        due("branch", x.branch(0, 1), 5);
        due("ruins", x.oracleOf(1, 8), 1);
        due("ruins of the other one", x.oracleOf(0, 8), 0);
        due("ruined", x.count(2), 1);
        x.branch(0, 1);
        due("a ruined one is not ruined again", x.oracleOf(1, 8), 1);
        x.give(1, 4);
        due("branch", x.branch(0, 1), 4);
        due("ruins", x.oracleOf(1, 8), 2);
        due("wrong", x.oracleOf(1, 6), 2);

        about("promise 8, emptied and filled again");
        Run y = rivals(50, 15);
        y.lend(1, 0, 10);
        due("branch", y.branch(0, 1), 5);
        purses(y, 0, 63, 2);
        due("ruins", y.oracleOf(1, 8), 0);

        about("promise 8, a ruined creditor");
        Run z = rivals(50, 50);
        z.oracle(1, 0, 10);
        z.seat(2, 1);
        z.lend(2, 0, 10);
        due("branch", z.branch(0, 1), 5);
        purses(z, 0, 63, 45, 2);
        due("right", z.oracleOf(2, 5), 0);
        due("wrong", z.oracleOf(2, 6), 0);
        due("ruins", z.oracleOf(2, 8), 0);
        due("it learns all the same", z.counter(2, 0), 2);
        due("stake", z.stake(2, 0), 2);
    }

    private static void branchRecords() {
        about("promise 8, records");
        Run x = rivals(9999, 9999);
        x.set(0, 1);
        branches(x, 7, "1101");
        due("record", x.oracleOf(0, 7), 13);
        due("record", x.oracleOf(1, 7), 2);
        due("right", x.oracleOf(0, 5), 3);
        due("wrong", x.oracleOf(0, 6), 1);
        branches(x, 7, "111111111111");
        due("16 branches", x.oracleOf(0, 7), 0xDFFF);
        branches(x, 7, "1");
        due("17 branches", x.oracleOf(0, 7), 0xBFFF);
        branches(x, 7, "0");
        due("18 branches", x.oracleOf(0, 7), 0x7FFE);
        due("right", x.oracleOf(0, 5), 16);
        x.stand(0);
        x.branch(7, 1);
        due("without a seat", x.oracleOf(0, 7), 0x7FFE);
        due("without a seat", x.oracleOf(0, 5) + x.oracleOf(0, 6), 18);
        due("with a seat, no bet", x.oracleOf(1, 5) + x.oracleOf(1, 6), 19);
        due("record without a bet", x.oracleOf(1, 7) & 3, 2);
    }

    private static void branchTeaches() {
        about("promise 8, counters");
        Run x = new Run();
        x.oracle(1, 5, 0);
        x.oracle(2, 2, 10);
        x.oracle(3, 3, 10);
        x.branch(33, 1);
        due("by address", x.counter(0, 1), 2);
        due("by the past", x.counter(1, 0), 2);
        due("mixed", x.counter(2, 1), 2);
        x.branch(33, 1);
        due("by address", x.counter(0, 1), 3);
        due("by the past", x.counter(1, 1), 2);
        due("mixed", x.counter(2, 0), 2);
        x.branch(33, 1);
        due("by address, at most 3", x.counter(0, 1), 3);
        due("by the past", x.counter(1, 3), 2);
        due("mixed", x.counter(2, 2), 2);
        x.branch(63, 0);
        due("by address", x.counter(0, 31), 0);
        due("by the past", x.counter(1, 3), 1);
        due("mixed, 63 xor 7", x.counter(2, 0), 1);
        x.branch(63, 0);
        due("by address, at least 0", x.counter(0, 31), 0);
        x.branch(31, 1);
        due("by address", x.counter(0, 31), 1);
        due("history", x.count(5), 57);
        branches(x, 0, "111");
        due("history modulo 256", x.count(5), (57 * 8 + 7) & 255);
        Run y = new Run();
        y.oracle(1, 0, 5);
        y.branch(1, 0);
        y.branch(2, 0);
        y.branch(3, 1);
        due("one counter for all addresses", y.counter(0, 0), 1);
        for (int i = 0; i < 9; i++) {
            y.branch(4, 1);
        }
        due("history", y.count(5), 255);
    }

    private static void branchErrors() {
        about("promise 8, errors");
        Run x = rivals(50, 50);
        refused(x, "address 64", () -> x.branch(64, 1), INVALID);
        refused(x, "address -1", () -> x.branch(-1, 1), INVALID);
        refused(x, "address MAX", () -> x.branch(MAX, 1), INVALID);
        refused(x, "taken 2", () -> x.branch(0, 2), INVALID);
        refused(x, "taken -1", () -> x.branch(0, -1), INVALID);
        due("address 63", x.branch(63, 0), 5);
        due("address 0", x.branch(0, 1), 5);
    }

    private static void oracleOf() {
        about("promise 9");
        Run x = rivals(50, 50);
        x.oracle(3, 4, 77);
        x.oracle(4, 0, 1);
        x.lend(0, 1, 3);
        x.lend(2, 1, 5);
        x.lend(1, 0, 7);
        int[] all = {3, 4, 72, NOT_FOUND, NOT_FOUND, 0, 0, 0, 0, 0, 5};
        for (int i = 0; i < all.length; i++) {
            final int what = i;
            read(x, "oracleOf(2, " + i + ")", () -> x.oracleOf(2, what), all[i]);
        }
        due("booth", x.oracleOf(1, 3), 0);
        due("seat", x.oracleOf(1, 4), 1);
        due("owes", x.oracleOf(1, 9), 8);
        due("is owed", x.oracleOf(1, 10), 7);
        due("owes", x.oracleOf(0, 9), 7);
        due("is owed", x.oracleOf(0, 10), 3);
        refused(x, "what -1", () -> x.oracleOf(0, -1), INVALID);
        refused(x, "what 11", () -> x.oracleOf(0, 11), INVALID);
        refused(x, "what MAX", () -> x.oracleOf(2, MAX), INVALID);
        refused(x, "oracle -1", () -> x.oracleOf(-1, 0), INVALID);
        refused(x, "oracle 4", () -> x.oracleOf(4, 3), INVALID);
        refused(x, "oracle MIN", () -> x.oracleOf(MIN, 3), INVALID);
        x.seat(2, 2);
        due("booth", x.oracleOf(2, 3), 2);
        due("seat", x.oracleOf(2, 4), 0);
    }

    private static void counter() {
        about("promise 10");
        for (int kind = 1; kind <= 3; kind++) {
            for (int number = 0; number <= 5; number++) {
                Run x = new Run();
                x.oracle(kind, number, 0);
                due("the last one", x.counter(0, (1 << number) - 1), 1);
                due("behind the last one", x.counter(0, 1 << number), NOT_FOUND);
            }
        }
        Run x = new Run();
        x.oracle(1, 5, 5);
        x.oracle(0, 1, 5);
        x.oracle(4, 0, 5);
        read(x, "counter", () -> x.counter(0, 7), 1);
        refused(x, "index -1", () -> x.counter(0, -1), INVALID);
        refused(x, "index MIN", () -> x.counter(0, MIN), INVALID);
        refused(x, "index MAX", () -> x.counter(0, MAX), NOT_FOUND);
        refused(x, "no table", () -> x.counter(1, 0), NOT_FOUND);
        refused(x, "no table", () -> x.counter(2, 0), NOT_FOUND);
        refused(x, "no table, index -1", () -> x.counter(1, -1), INVALID);
        refused(x, "oracle 3", () -> x.counter(3, 0), INVALID);
        refused(x, "oracle -1", () -> x.counter(-1, 0), INVALID);
    }

    private static void loanOf() {
        about("promise 11");
        Run x = rivals(50, 50);
        refused(x, "no loan", () -> x.loanOf(0, 0), INVALID);
        x.lend(1, 0, 9);
        read(x, "creditor", () -> x.loanOf(0, 0), 1);
        read(x, "debtor", () -> x.loanOf(0, 1), 0);
        read(x, "owed", () -> x.loanOf(0, 2), 9);
        refused(x, "what 3", () -> x.loanOf(0, 3), INVALID);
        refused(x, "what -1", () -> x.loanOf(0, -1), INVALID);
        refused(x, "loan 1", () -> x.loanOf(1, 0), INVALID);
        refused(x, "loan -1", () -> x.loanOf(-1, 0), INVALID);
        refused(x, "loan MAX", () -> x.loanOf(MAX, 0), INVALID);
        x.branch(0, 1);
        due("owed", x.loanOf(0, 2), 7);
        branches(x, 0, "1111");
        due("paid back", x.loanOf(0, 2), INVALID);
        due("loans", x.count(8), 0);
    }

    private static void aliases() {
        about("promise 12");
        Run x = new Run();
        x.oracle(1, 2, 5);
        x.oracle(2, 5, 5);
        x.oracle(3, 3, 5);
        x.oracle(0, 0, 5);
        x.oracle(4, 0, 5);
        due("no branches", x.aliases(0, 5), 0);
        x.branch(5, 1);
        x.branch(5, 1);
        due("itself alone", x.aliases(0, 5), 0);
        x.branch(9, 0);
        x.branch(63, 0);
        x.branch(13, 0);
        due("5, 9, 13 modulo 4", x.aliases(0, 5), 2);
        due("one that did not come", x.aliases(0, 1), 3);
        due("63", x.aliases(0, 63), 0);
        due("3", x.aliases(0, 3), 1);
        due("2", x.aliases(0, 2), 0);
        due("all by the past", x.aliases(1, 5), 3);
        due("all by the past", x.aliases(1, 0), 4);
        due("mixed", x.aliases(2, 5), 1);
        due("mixed", x.aliases(2, 21), 2);
        x.branch(0, 0);
        read(x, "aliases", () -> x.aliases(0, 4), 1);
        x.undo();
        due("an undone branch", x.aliases(0, 4), 0);
        refused(x, "no table", () -> x.aliases(3, 5), NOT_FOUND);
        refused(x, "no table", () -> x.aliases(4, 5), NOT_FOUND);
        refused(x, "no table, address 64", () -> x.aliases(3, 64), INVALID);
        refused(x, "address 64", () -> x.aliases(0, 64), INVALID);
        refused(x, "address -1", () -> x.aliases(0, -1), INVALID);
        refused(x, "oracle 5", () -> x.aliases(5, 0), INVALID);
        refused(x, "oracle -1", () -> x.aliases(-1, 0), INVALID);
    }

    private static void share() {
        about("promise 13");
        Run x = rivals(9999, 9999);
        refused(x, "neither so far", () -> x.share(0), NOT_FOUND);
        x.branch(0, 1);
        read(x, "always right", () -> x.share(0), 0x3F800000);
        read(x, "never right", () -> x.share(1), 0);
        branches(x, 0, "00");
        due("a third", x.share(0), 0x3EAAAAAB);
        due("two thirds", x.share(1), 0x3F2AAAAB);
        int right = 1;
        for (int times = 4; times < 300; times++) {
            int taken = times % 7 == 0 || times % 5 == 1 ? 1 : 0;
            x.branch(0, taken);
            right += taken;
            due(right + " of " + times, x.again().share(0), bits(right, times));
            due(times - right + " of " + times, x.again().share(1), bits(times - right, times));
        }
        refused(x, "oracle 2", () -> x.share(2), INVALID);
        refused(x, "oracle -1", () -> x.share(-1), INVALID);
        Run y = rivals(9999, 9999);
        y.set(0, 1);
        y.branch(0, 1);
        write(y, "skip 0 40;skip 0 40;");
        for (int i = 0; i < 200; i++) {
            y.play();
        }
        due("1 of 16001", y.share(0), y.oracleOf(0, 6) == 0 ? 0 : bits(1, 1 + y.oracleOf(0, 6)));
        due("the others", y.share(1), bits(y.oracleOf(1, 5), y.oracleOf(1, 5) + 1));
    }

    private static void rich() {
        about("promise 14");
        Run x = new Run();
        int[] coins = {5, 9, 5, 0, 9, 7};
        for (int purse : coins) {
            x.oracle(0, 1, purse);
        }
        int[] order = {1, 4, 5, 0, 2, 3};
        for (int i = 0; i < order.length; i++) {
            final int place = i;
            read(x, "rich(" + i + ")", () -> x.rich(place), order[i]);
        }
        refused(x, "place 6", () -> x.rich(6), NOT_FOUND);
        refused(x, "place MAX", () -> x.rich(MAX), NOT_FOUND);
        refused(x, "place -1", () -> x.rich(-1), INVALID);
        refused(x, "place MIN", () -> x.rich(MIN), INVALID);
        x.give(3, 8);
        due("the third", x.rich(2), 3);
        due("the last", x.rich(5), 2);
    }

    private static void says() {
        about("promise 15");
        Run x = new Run();
        x.oracle(0, 1, 0);
        x.oracle(0, 0, 10);
        x.oracle(1, 1, 10);
        x.oracle(2, 1, 10);
        x.oracle(3, 1, 0);
        read(x, "fixed", () -> x.says(0, 0), 1);
        read(x, "fixed", () -> x.says(1, 63), 0);
        read(x, "by address", () -> x.says(2, 0), 0);
        x.branch(0, 1);
        read(x, "by address", () -> x.says(2, 0), 1);
        due("by address, another counter", x.says(2, 1), 0);
        due("by address, the same counter", x.says(2, 62), 1);
        due("by the past, history 1", x.says(3, 0), 0);
        due("mixed, 0 xor 1", x.says(4, 0), 0);
        due("mixed, 1 xor 1", x.says(4, 1), 1);
        x.branch(5, 0);
        due("by the past, history 2", x.says(3, 1), 1);
        due("mixed, 0 xor 2", x.says(4, 0), 0);
        x.branch(8, 0);
        due("by address, 1 again", x.says(2, 0), 0);
        x.branch(8, 1);
        x.branch(8, 1);
        due("by address, 3", x.says(2, 0), 1);
        refused(x, "oracle 5", () -> x.says(5, 0), INVALID);
        refused(x, "oracle -1", () -> x.says(-1, 0), INVALID);
        refused(x, "address 64", () -> x.says(0, 64), INVALID);
        refused(x, "address -1", () -> x.says(0, -1), INVALID);
    }

    private static void saysContrary() {
        about("promise 15, contrary");
        Run x = new Run();
        x.oracle(4, 0, 5);
        x.oracle(4, 0, 999);
        x.oracle(0, 1, 50);
        x.oracle(0, 0, 50);
        x.oracle(1, 0, 30);
        x.oracle(0, 0, 800);
        due("nobody", x.says(0, 0), 0);
        x.seat(3, 0);
        due("those that say 0 have more", x.says(0, 0), 1);
        due("also a second one, without a seat", x.says(1, 0), 1);
        x.seat(2, 0);
        due("as many", x.says(0, 0), 0);
        x.give(3, 1);
        due("more by one", x.says(0, 0), 1);
        x.give(2, 2);
        due("more by one", x.says(0, 0), 0);
        x.seat(4, 1);
        due("tables count", x.says(0, 0), 1);
        x.branch(0, 1);
        due("a table that changed its mind", x.says(0, 0), 0);
        x.seat(0, 2);
        x.seat(1, 2);
        due("contrary ones do not count", x.says(0, 0), 0);
        x.stand(2);
        x.stand(4);
        due("those without a seat do not count", x.says(0, 0), 1);
        Run y = new Run();
        y.oracle(0, 1, 30);
        y.oracle(0, 0, 20);
        y.oracle(4, 0, 100);
        y.oracle(0, 0, 30);
        y.seat(0, 0);
        y.seat(1, 0);
        y.seat(2, 2);
        y.seat(3, 2);
        due("purses, not stakes, count", y.says(2, 0), 1);
        due("branch", y.branch(0, 0), 10);
        purses(y, 2, 25, 24, 95, 34);
        due("right", y.oracleOf(2, 5), 0);
        due("wrong", y.oracleOf(2, 6), 1);
    }

    private static void stake() {
        about("promise 16");
        Run x = new Run();
        x.oracle(0, 1, 100);
        x.oracle(1, 0, 100);
        x.oracle(4, 0, 100);
        x.oracle(3, 0, 7);
        x.oracle(0, 0, 0);
        due("no seat", x.stake(0, 0), 0);
        due("no seat", x.stake(1, 0), 0);
        x.seat(0, 0);
        x.seat(1, 1);
        x.seat(2, 2);
        x.seat(3, 1);
        x.seat(4, 0);
        read(x, "fixed", () -> x.stake(0, 0), 5);
        read(x, "counter 1", () -> x.stake(1, 0), 5);
        read(x, "contrary", () -> x.stake(2, 0), 5);
        read(x, "ruined", () -> x.stake(4, 0), 0);
        due("less than the purse", x.stake(3, 0), 5);
        x.set(0, 50);
        due("the unit", x.stake(0, 9), 50);
        due("the unit", x.stake(2, 9), 50);
        due("the purse", x.stake(3, 0), 7);
        x.set(0, 5);
        for (int i = 0; i < 4; i++) {
            x.stand(i);
        }
        x.branch(0, 0);
        x.seat(1, 1);
        x.seat(3, 1);
        due("counter 0", x.stake(1, 0), 10);
        due("counter 0, the purse", x.stake(3, 0), 7);
        x.stand(1);
        x.stand(3);
        due("no seat", x.stake(1, 0), 0);
        branches(x, 0, "11");
        x.seat(1, 1);
        due("counter 2", x.stake(1, 0), 5);
        x.branch(0, 1);
        due("counter 3", x.stake(1, 0), 10);
        refused(x, "oracle 5", () -> x.stake(5, 0), INVALID);
        refused(x, "oracle -1", () -> x.stake(-1, 0), INVALID);
        refused(x, "address 64", () -> x.stake(0, 64), INVALID);
        refused(x, "address -1", () -> x.stake(0, -1), INVALID);
    }

    private static void odds() {
        about("promise 17");
        Run x = rivals(100, 100);
        read(x, "half", () -> x.odds(0), 0x3F000000);
        x.oracle(1, 1, 100);
        due("one without a seat", x.odds(0), 0x3F000000);
        x.seat(2, 1);
        read(x, "a third", () -> x.odds(0), 0x3EAAAAAB);
        branches(x, 2, "11");
        due("three of four", x.odds(0), bits(15, 20));
        due("another counter", x.odds(1), bits(5, 15));
        x.stand(1);
        due("all", x.odds(0), 0x3F800000);
        x.stand(0);
        due("none says 1", x.odds(1), 0);
        x.stand(2);
        refused(x, "no stakes", () -> x.odds(0), NOT_FOUND);
        refused(x, "address 64", () -> x.odds(64), INVALID);
        refused(x, "address -1", () -> x.odds(-1), INVALID);
        Run y = new Run();
        y.oracle(0, 1, 0);
        y.seat(0, 0);
        due("ruined", y.odds(0), NOT_FOUND);
        y.give(0, 1);
        due("one coin", y.odds(0), 0x3F800000);
        y.undo();
        y.give(0, 3);
        y.oracle(0, 0, 100);
        y.seat(1, 0);
        for (int unit = 3; unit <= 50; unit++) {
            y.set(0, unit);
            due("3 of " + (3 + unit), y.odds(0), bits(3, 3 + unit));
        }
    }

    private static void gain() {
        about("promise 18");
        Run x = rivals(100, 100);
        x.oracle(1, 0, 100);
        x.oracle(1, 0, 100);
        x.seat(2, 1);
        x.seat(3, 1);
        x.oracle(0, 0, 10);
        x.lend(4, 0, 10);
        read(x, "wins, pays creditors", () -> x.gain(0, 0, 1), 7);
        read(x, "loses", () -> x.gain(0, 0, 0), -5);
        read(x, "loses", () -> x.gain(1, 0, 1), -5);
        read(x, "wins", () -> x.gain(1, 0, 0), 1);
        read(x, "wins", () -> x.gain(2, 0, 0), 1);
        read(x, "a creditor without a seat", () -> x.gain(4, 0, 1), 7);
        read(x, "a creditor without a seat", () -> x.gain(4, 0, 0), 0);
        due("branch", x.branch(0, 1), 15);
        purses(x, 1, 117, 95, 95, 95, 7);
        refused(x, "oracle 5", () -> x.gain(5, 0, 1), INVALID);
        refused(x, "oracle -1", () -> x.gain(-1, 0, 1), INVALID);
        refused(x, "address 64", () -> x.gain(0, 64, 1), INVALID);
        refused(x, "address -1", () -> x.gain(0, -1, 1), INVALID);
        refused(x, "taken 2", () -> x.gain(0, 0, 2), INVALID);
        refused(x, "taken -1", () -> x.gain(0, 0, -1), INVALID);
    }

    private static void doom() {
        about("promise 19");
        Run x = rivals(1000, 100);
        x.set(0, 1);
        read(x, "by the 100th", () -> x.doom(1, 0, 1), 100);
        read(x, "it wins", () -> x.doom(1, 0, 0), NOT_FOUND);
        x.give(1, 1);
        read(x, "not by 100", () -> x.doom(1, 0, 1), NOT_FOUND);
        x.set(0, 50);
        read(x, "101 by 50", () -> x.doom(1, 0, 1), 3);
        read(x, "1000 by 50, but the other's purse is not empty", () -> x.doom(0, 0, 0), 20);
        x.stand(1);
        read(x, "no seat", () -> x.doom(1, 0, 1), NOT_FOUND);
        x.oracle(0, 0, 0);
        read(x, "ruined", () -> x.doom(2, 0, 1), 0);
        Run y = rivals(100, 100);
        y.oracle(1, 0, 12);
        y.seat(2, 1);
        read(y, "it learns", () -> y.doom(2, 0, 1), NOT_FOUND);
        y.branch(0, 0);
        read(y, "a double stake, then it's ruined", () -> y.doom(2, 0, 1), 2);
        refused(y, "oracle 3", () -> y.doom(3, 0, 1), INVALID);
        refused(y, "oracle -1", () -> y.doom(-1, 0, 1), INVALID);
        refused(y, "address 64", () -> y.doom(0, 64, 1), INVALID);
        refused(y, "address -1", () -> y.doom(0, -1, 1), INVALID);
        refused(y, "taken 2", () -> y.doom(0, 0, 2), INVALID);
        refused(y, "taken -1", () -> y.doom(0, 0, -1), INVALID);
        refused(x, "ruined, but address 64", () -> x.doom(2, 64, 1), INVALID);
    }

    private static void bestRow() {
        about("promise 20");
        Run x = rivals(10, 10);
        x.oracle(0, 1, 3);
        read(x, "1 branch", () -> x.bestRow(0, 0, 1, 0), 1);
        read(x, "its purse", () -> x.bestRow(0, 0, 1, 1), 15);
        read(x, "the first of two rows", () -> x.bestRow(0, 0, 3, 0), 6);
        read(x, "its purse", () -> x.bestRow(0, 0, 3, 1), 20);
        read(x, "the first of two rows", () -> x.bestRow(1, 0, 3, 0), 0);
        read(x, "its purse", () -> x.bestRow(1, 0, 3, 1), 20);
        read(x, "5 branches", () -> x.bestRow(0, 63, 5, 0), 14);
        read(x, "no seat", () -> x.bestRow(2, 63, 5, 0), 0);
        read(x, "no seat", () -> x.bestRow(2, 63, 5, 1), 3);
        for (int times = 0; times <= 6; times += 6) {
            final int t = times;
            refused(x, times + " branches", () -> x.bestRow(0, 0, t, 0), INVALID);
        }
        refused(x, "MAX branches", () -> x.bestRow(0, 0, MAX, 0), INVALID);
        refused(x, "-1 branches", () -> x.bestRow(0, 0, -1, 0), INVALID);
        refused(x, "what 2", () -> x.bestRow(0, 0, 1, 2), INVALID);
        refused(x, "what -1", () -> x.bestRow(0, 0, 1, -1), INVALID);
        refused(x, "oracle 3", () -> x.bestRow(3, 0, 1, 0), INVALID);
        refused(x, "oracle -1", () -> x.bestRow(-1, 0, 1, 0), INVALID);
        refused(x, "address 64", () -> x.bestRow(0, 64, 1, 0), INVALID);
        refused(x, "address -1", () -> x.bestRow(0, -1, 1, 0), INVALID);
        Run y = rivals(500, 500);
        y.oracle(1, 0, 500);
        y.seat(2, 1);
        read(y, "at once", () -> y.bestRow(0, 0, 2, 0), 3);
        read(y, "9 and 2", () -> y.bestRow(0, 0, 2, 1), 511);
        read(y, "lose first, so that the table stakes double", () -> y.bestRow(0, 0, 3, 0), 3);
        read(y, "-5, 14 and 9", () -> y.bestRow(0, 0, 3, 1), 518);
        Run z = rivals(500, 0);
        z.oracle(0, 0, 5);
        z.lend(0, 1, 5);
        read(z, "its own coins after a loan", () -> z.bestRow(0, 0, 5, 1), 500);
    }

    private static void count() {
        about("promise 21");
        Run x = rivals(100, 100);
        x.oracle(1, 0, 30);
        x.oracle(0, 0, 0);
        x.seat(2, 1);
        x.seat(3, 2);
        x.branch(0, 1);
        x.branch(0, 1);
        x.stand(2);
        x.branch(0, 0);
        x.stand(0);
        x.branch(0, 1);
        x.lend(0, 1, 4);
        write(x, "take 1");
        int[] all = {4, 2, 1, 2, 230, 13, 4, 3, 1, 4, 6};
        for (int i = 0; i < all.length; i++) {
            final int what = i;
            read(x, "count(" + i + ")", () -> x.count(what), all[i]);
        }
        x.set(0, 11);
        x.set(1, 12);
        x.set(2, 13);
        for (int i = 20; i <= 22; i++) {
            final int what = i;
            read(x, "count(" + i + ")", () -> x.count(what), i - 9);
        }
        Run y = new Run();
        y.oracle(0, 0, 0);
        y.oracle(1, 0, 0);
        due("all are ruined", y.count(2), 2);
        int[] wrong = {-1, 11, 12, 19, 23, MIN, MAX};
        for (int each : wrong) {
            refused(x, "count(" + each + ")", () -> x.count(each), INVALID);
        }
    }

    private static void undo() {
        about("promise 22");
        Run x = new Run();
        refused(x, "undo of nothing", x::undo, NOT_POSSIBLE);
        x.oracle(0, 1, 50);
        due("states", x.count(9), 1);
        x.oracle(0, 0, 50);
        x.seat(0, 0);
        x.seat(1, 0);
        due("states", x.count(9), 4);
        x.set(0, 9);
        due("states", x.count(9), 4);
        write(x, "cut 3;");
        String[] seen = new String[6];
        for (int i = 0; i < 6; i++) {
            seen[i] = View.ofState(x);
            x.branch(i, i & 1);
        }
        for (int left = 3; left >= 0; left--) {
            due("undo", x.undo(), left);
            CHECKS.that("undo does not restore state " + (left + 2), View.ofState(x).equals(seen[left + 2]));
            due("states", x.count(9), left);
        }
        refused(x, "undo of what was dropped", x::undo, NOT_POSSIBLE);
        due("the text stays", x.count(10), 6);
        due("branches", x.count(6), 2);
        x.branch(9, 1);
        x.give(0, 3);
        due("undo", x.undo(), 1);
        due("undo", x.undo(), 0);
        CHECKS.that("undo of later changes", View.ofState(x).equals(seen[2]));
        x.seat(0, 7);
        x.branch(0, 5);
        x.oracle(9, 9, 9);
        due("errors are no changes", x.count(9), 0);
        x.type('a');
        x.clearText();
        x.says(0, 0);
        x.gain(0, 0, 0);
        due("texts and questions are no changes", x.count(9), 0);
    }

    private static void type() {
        about("promise 23");
        Run x = new Run();
        due("type", x.type(32), 1);
        due("type", x.type(126), 2);
        refused(x, "31", () -> x.type(31), INVALID);
        refused(x, "127", () -> x.type(127), INVALID);
        refused(x, "-1", () -> x.type(-1), INVALID);
        refused(x, "65536 + 65", () -> x.type(65536 + 65), INVALID);
        refused(x, "MIN", () -> x.type(MIN), INVALID);
        refused(x, "MAX", () -> x.type(MAX), INVALID);
        for (int length = 3; length <= 80; length++) {
            due("type", x.type('a'), length);
        }
        refused(x, "an 81st", () -> x.type('a'), LIMIT);
        refused(x, "an 81st that is none", () -> x.type(31), INVALID);
        due("length", x.count(10), 80);
    }

    private static void clearText() {
        about("promise 24");
        Run x = new Run();
        due("empty", x.clearText(), 0);
        write(x, "take");
        due("clearText", x.clearText(), 4);
        due("length", x.count(10), 0);
        due("clearText", x.clearText(), 0);
        write(x, "cut 5;");
        due("nothing is left of the former text", x.fault(0), NOT_FOUND);
        for (int i = 0; i < 100; i++) {
            x.type('a');
        }
        due("clearText", x.clearText(), 80);
        due("type", x.type('b'), 1);
    }

    private static void faultOf(String text, int position, int reason, int cause) {
        Run x = new Run();
        write(x, text);
        read(x, "position of '" + text + "'", () -> x.fault(0), position);
        read(x, "reason of '" + text + "'", () -> x.fault(1), reason);
        read(x, "cause of '" + text + "'", () -> x.fault(2), cause);
        refused(x, "play of '" + text + "'", x::play, NOT_POSSIBLE);
    }

    private static void noFault(String text) {
        Run x = new Run();
        write(x, text);
        for (int what = 0; what <= 2; what++) {
            final int w = what;
            read(x, "fault of '" + text + "'", () -> x.fault(w), NOT_FOUND);
        }
    }

    private static void fault() {
        about("promise 25");
        noFault("");
        noFault("take 0 1;");
        noFault("skip 63 40;");
        noFault("flip 00 01;loop 9 9;");
        noFault("cut 0;cut 50;cut 07;");
        noFault("take 1 10;".repeat(8));
        noFault("cut 5;".repeat(12) + "cut 50;");
        formFaults();
        rangeFaults();
        Run x = new Run();
        refused(x, "what 3", () -> x.fault(3), INVALID);
        refused(x, "what -1", () -> x.fault(-1), INVALID);
        x.type('x');
        refused(x, "what 3", () -> x.fault(3), INVALID);
        refused(x, "what MIN", () -> x.fault(MIN), INVALID);
    }

    private static void formFaults() {
        faultOf("x", 0, 1, 0);
        faultOf(";", 0, 1, 0);
        faultOf(" ", 0, 1, 0);
        faultOf("tak", 0, 1, 0);
        faultOf("tak 1 1;", 0, 1, 0);
        faultOf("taken 1 1;", 0, 1, 0);
        faultOf("takecut 1 1;", 0, 1, 0);
        for (String word : new String[] {"bake", "tame", "take", "skid", "zkip", "flap", "noop", "loopz", "taket"}) {
            faultOf(word + " 1 1,", 0, 1, word.equals("take") ? 8 : 0);
        }
        faultOf("but 1;", 0, 1, 0);
        faultOf("cat 1;", 0, 1, 0);
        faultOf("cup 1;", 0, 1, 0);
        faultOf("take`1 1;", 0, 1, 4);
        faultOf("take{1 1;", 0, 1, 4);
        faultOf("take / 1;", 0, 1, 5);
        faultOf("take : 1;", 0, 1, 5);
        faultOf("Take 1 1;", 0, 1, 0);
        faultOf("1 1;", 0, 1, 0);
        faultOf("take", 0, 1, 4);
        faultOf("take;", 0, 1, 4);
        faultOf("takeX 1 1;", 0, 1, 4);
        faultOf("take ", 0, 1, 5);
        faultOf("take  1 1;", 0, 1, 5);
        faultOf("take a 1;", 0, 1, 5);
        faultOf("take -1 1;", 0, 1, 5);
        faultOf("take 1", 0, 1, 6);
        faultOf("take 1;", 0, 1, 6);
        faultOf("take 12", 0, 1, 7);
        faultOf("take 123 1;", 0, 1, 7);
        faultOf("take 12 ", 0, 1, 8);
        faultOf("take 12  3;", 0, 1, 8);
        faultOf("take 12 3", 0, 1, 9);
        faultOf("take 12 3 ;", 0, 1, 9);
        faultOf("take 12 3 4;", 0, 1, 9);
        faultOf("take 12 34", 0, 1, 10);
        faultOf("take 12 345;", 0, 1, 10);
        faultOf("take 12 34:", 0, 1, 10);
        faultOf("cut", 0, 1, 3);
        faultOf("cut ", 0, 1, 4);
        faultOf("cut ;", 0, 1, 4);
        faultOf("cut 5", 0, 1, 5);
        faultOf("cut 5 ;", 0, 1, 5);
        faultOf("cut 5 5;", 0, 1, 5);
        faultOf("cut 50", 0, 1, 6);
        faultOf("cut 500;", 0, 1, 6);
        faultOf("take 99 1", 0, 1, 9);
        faultOf("cut 99", 0, 1, 6);
        faultOf("take 1 1; take 1 1;", 9, 1, 0);
        faultOf("take 1 1;;", 9, 1, 0);
        faultOf("cut 5;take 1 1;loop 1", 15, 1, 6);
        faultOf("cut 5;taek 1 1;loop 1", 6, 1, 0);
        faultOf("cut 5;".repeat(12) + "take 1 1", 72, 1, 8);
        faultOf("a".repeat(80), 0, 1, 0);
    }

    private static void rangeFaults() {
        faultOf("take 64 1;", 0, 2, 0);
        faultOf("skip 99 99;", 0, 2, 0);
        faultOf("flip 0 0;", 0, 2, 1);
        faultOf("flip 0 00;", 0, 2, 1);
        faultOf("loop 63 41;", 0, 2, 1);
        faultOf("cut 51;", 0, 2, 0);
        faultOf("cut 99;", 0, 2, 0);
        faultOf("take 1 1;cut 51;take 64 1;", 9, 2, 0);
        faultOf("take 1 1;take 1 0;x", 9, 2, 1);
        faultOf("x;take 64 1;", 0, 1, 0);
        faultOf("take 1 41;x", 0, 2, 1);
    }

    private static int played(Run x, String text) {
        write(x, text);
        return x.play();
    }

    private static void play() {
        about("promise 26");
        Run x = new Run();
        due("no orders", x.play(), 0);
        due("no orders are one change", x.count(9), 1);
        x.oracle(1, 5, 0);
        due("take", played(x, "take 33 3;"), 3);
        due("history", x.count(5), 7);
        due("counter", x.counter(0, 1), 3);
        due("skip", played(x, "skip 33 2;"), 2);
        due("history", x.count(5), 28);
        due("flip", played(x, "flip 2 3;"), 3);
        due("history", x.count(5), (28 * 8 + 5) & 255);
        due("flip of five", played(x, "flip 2 5;"), 5);
        due("history", x.count(5) & 31, 21);
        due("counter", x.counter(0, 2), 3);
        due("flip of one", played(x, "flip 2 1;"), 1);
        due("history", x.count(5) & 3, 3);
        due("loop", played(x, "loop 2 4;"), 4);
        due("history", x.count(5) & 15, 14);
        due("loop of one", played(x, "loop 2 1;"), 1);
        due("history", x.count(5) & 3, 0);
        due("branches", x.count(6), 19);
        due("the text stays", x.count(10), 9);
        due("play again", x.play(), 1);
        due("40 of them", played(x, "take 0 40;skip 63 40;"), 80);
        due("history", x.count(5), 0);
        due("branches", x.count(6), 100);
        due("aliases", x.aliases(0, 31), 1);
        due("cut", played(x, "cut 33;"), 0);
        due("the cut", x.count(21), 33);
        write(x, "cut 1;take 5 3;cut 7;loop 6 2;");
        undone(x, "play", x::play, 5);
        due("the cut is as it was", x.count(21), 33);
        Run y = rivals(500, 500);
        y.set(0, 50);
        due("play", played(y, "cut 0;take 1 1;cut 50;take 1 1;cut 10;skip 2 1;"), 3);
        purses(y, 30, 500 + 50 + 25 - 50, 500 - 100 + 45);
        due("bets", y.count(7), 3);
        due("states", y.count(9), 4);
        due("undo", y.undo(), 3);
        purses(y, 0, 500, 500);
        due("the cut", y.count(21), 10);
        due("the text stays", y.count(10), 47);
    }

    private static void playErrors() {
        about("promise 26, errors");
        Run x = rivals(500, 500);
        write(x, "cut 3;take 1 5;take 64 1;");
        refused(x, "an order that is out of range", x::play, NOT_POSSIBLE);
        write(x, "cut 3;take 1 5;take 6 1");
        refused(x, "an order without an end", x::play, NOT_POSSIBLE);
        x.type(';');
        due("play", x.play(), 6);
        due("the cut", x.count(21), 3);
    }
}
