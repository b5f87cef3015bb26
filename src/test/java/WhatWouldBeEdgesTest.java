/** The boundary cases of promises 15 to 21: what oracles say and stake, odds, gain, doom, the best row, counts. */
public final class WhatWouldBeEdgesTest extends TestBase {
    private static final String OUT_OF_RANGE = "INVALID_ARGUMENT if an argument is out of range";

    private WhatWouldBeEdgesTest() {
    }

    public static void main(String[] args) {
        saysWithinRanges();
        saysWithoutSeatOrCoins();
        stakeOfNothing();
        stakeAtItsEnds();
        oddsAtTheirEnds();
        oddsOfFewAndMany();
        oddsWithoutStakes();
        addressesOutOfRange();
        gainAtItsEnds();
        gainOfNothing();
        gainOfCreditors();
        gainOutOfRange();
        doomOfTheRuined();
        doomAtItsEnds();
        doomByUnits();
        doomOfWinners();
        doomOfTables();
        doomPutOff();
        doomOutOfRange();
        bestRowOfEachLength();
        bestRowIsTheFirst();
        bestRowWithoutBets();
        bestRowOutOfRange();
        countWithinRanges();
        countOfNoneAndAll();
        countOfCoins();
        countOutOfRange();
        CHECKS.end();
    }

    // ---- Promise 15

    private static void saysWithinRanges() {
        about("Promise 15, says", "address: 0 to 63 .. Returns 1 or 0");
        Run x = new Run();
        x.oracle(1, 5, 10);
        x.oracle(3, 5, 10);
        x.branch(63, 1);
        read(x, "by address 63", () -> x.says(0, 63), 1);
        read(x, "by address 31", () -> x.says(0, 31), 1);
        read(x, "by address 0", () -> x.says(0, 0), 0);
        read(x, "by address 32", () -> x.says(0, 32), 0);
        read(x, "mixed, 62 xor 1", () -> x.says(1, 62), 1);
        read(x, "mixed, 63 xor 1", () -> x.says(1, 63), 0);
        branches(x, 0, "1");
        read(x, "by address 0", () -> x.says(0, 0), 1);
        read(x, "by address 32", () -> x.says(0, 32), 1);
        read(x, "by address 33", () -> x.says(0, 33), 0);
    }

    private static void saysWithoutSeatOrCoins() {
        about("Promise 15, says", "Tells what an oracle says of a branch now, whether it has a seat or not");
        for (int kind = 0; kind <= 4; kind++) {
            for (int purse = 0; purse <= 1; purse++) {
                Run x = new Run();
                x.oracle(0, 0, 5);
                x.seat(0, 0);
                x.oracle(kind, kind == 0 ? 1 : 0, purse);
                x.branch(0, 1);
                read(x, "kind " + kind + ", no seat, coins " + purse, () -> x.says(1, 0), 1);
                x.seat(1, 2);
                read(x, "kind " + kind + ", a seat, coins " + purse, () -> x.says(1, 0), 1);
            }
        }
    }

    // ---- Promise 16

    private static void stakeOfNothing() {
        about("Promise 16, stake", "Returns the stake, 0 if it is ruined or has no seat");
        for (int kind = 0; kind <= 4; kind++) {
            Run x = new Run();
            x.oracle(kind, 0, 0);
            read(x, "ruined, no seat", () -> x.stake(0, 0), 0);
            x.seat(0, 2);
            read(x, "ruined", () -> x.stake(0, 63), 0);
            x.give(0, 1);
            read(x, "one coin", () -> x.stake(0, 0), 1);
            x.stand(0);
            read(x, "no seat", () -> x.stake(0, 63), 0);
        }
    }

    private static void stakeAtItsEnds() {
        about("Promise 16, stake", "address: 0 to 63 .. Returns the stake");
        Run x = new Run();
        x.oracle(1, 5, 9999);
        x.branch(63, 0);
        x.seat(0, 1);
        read(x, "address 0", () -> x.stake(0, 0), 5);
        read(x, "address 63, counter 0", () -> x.stake(0, 63), 10);
        x.set(0, 50);
        read(x, "the most, twice", () -> x.stake(0, 63), 100);
        read(x, "the most", () -> x.stake(0, 0), 50);
        x.set(0, 1);
        read(x, "the least, twice", () -> x.stake(0, 63), 2);
        read(x, "the least", () -> x.stake(0, 0), 1);
    }

    // ---- Promise 17

    private static void oddsAtTheirEnds() {
        about("Promise 17, odds", "the stakes of those that say 1, divided by all stakes, in floats");
        Run x = rivals(100, 100);
        read(x, "half", () -> x.odds(0), 0x3F000000);
        x.stand(1);
        read(x, "all", () -> x.odds(63), FULL_ONE);
        x.seat(1, 2);
        x.stand(0);
        read(x, "none", () -> x.odds(63), 0);
        x.seat(0, 0);
        x.oracle(1, 5, 19);
        x.branch(63, 1);
        x.seat(2, 1);
        read(x, "address 63", () -> x.odds(63), bits(10, 15));
        read(x, "address 31", () -> x.odds(31), bits(10, 15));
        read(x, "address 0", () -> x.odds(0), bits(5, 15));
        x.oracle(4, 0, 100);
        x.seat(3, 2);
        read(x, "a contrary one that says 0", () -> x.odds(63), bits(10, 20));
        read(x, "a contrary one that says 1", () -> x.odds(0), bits(10, 20));
    }

    private static void oddsOfFewAndMany() {
        about("Promise 17, odds", "the stakes of those that say 1, divided by all stakes", "1 of 251, and 250 of 251");
        for (int word = 0; word <= 1; word++) {
            Run x = new Run();
            x.set(0, 50);
            x.oracle(1, 0, 9999);
            x.oracle(1, 0, 9999);
            x.oracle(0, word, 9999);
            x.oracle(0, 1 - word, 1);
            branches(x, 0, word == 0 ? "0" : "11");
            for (int i = 0; i < 4; i++) {
                x.seat(i, i / 2 == 0 ? 1 : 0);
            }
            read(x, "word " + word, () -> x.odds(0), word == 0 ? bits(1, 251) : bits(250, 251));
        }
    }

    private static void oddsWithoutStakes() {
        about("Promise 17, odds", "NOT_FOUND if there are no stakes");
        Run x = new Run();
        refused(x, "no oracles", () -> x.odds(0), NOT_FOUND);
        x.oracle(0, 1, 100);
        refused(x, "no seat", () -> x.odds(0), NOT_FOUND);
        x.oracle(0, 1, 0);
        x.seat(1, 0);
        refused(x, "all that have a seat are ruined", () -> x.odds(63), NOT_FOUND);
        x.give(1, 1);
        read(x, "one coin", () -> x.odds(0), FULL_ONE);
        x.lend(1, 0, 1);
        refused(x, "ruined again", () -> x.odds(0), NOT_FOUND);
        x.seat(0, 0);
        x.stand(0);
        refused(x, "all stood up", () -> x.odds(0), NOT_FOUND);
    }

    private static void addressesOutOfRange() {
        about("Promises 15, 16, 17, 18, 19, 20", OUT_OF_RANGE);
        Run x = busy();
        for (int address : outside(0, 63)) {
            refused(x, "odds(" + address + ")", () -> x.odds(address), INVALID);
            for (int oracle = 0; oracle <= 4; oracle++) {
                int each = oracle;
                String both = "(" + oracle + ", " + address + ")";
                refused(x, "says" + both, () -> x.says(each, address), INVALID);
                refused(x, "stake" + both, () -> x.stake(each, address), INVALID);
                refused(x, "gain" + both, () -> x.gain(each, address, 1), INVALID);
                refused(x, "doom" + both, () -> x.doom(each, address, 1), INVALID);
                refused(x, "bestRow" + both, () -> x.bestRow(each, address, 1, 0), INVALID);
            }
        }
        refused(x, "says, both out of range", () -> x.says(5, 64), INVALID);
        refused(x, "stake, both out of range", () -> x.stake(5, 64), INVALID);
    }

    // ---- Promise 18

    private static void gainAtItsEnds() {
        about("Promise 18, gain", "Returns the coins, below 0 if it would become less");
        for (int address = 0; address <= 63; address += 63) {
            int at = address;
            Run x = rivals(50, 50);
            read(x, "right", () -> x.gain(0, at, 1), 5);
            read(x, "wrong", () -> x.gain(1, at, 1), -5);
            read(x, "wrong", () -> x.gain(0, at, 0), -5);
            read(x, "right", () -> x.gain(1, at, 0), 5);
            x.set(0, 50);
            x.set(1, 50);
            read(x, "right, half for the house", () -> x.gain(0, at, 1), 25);
            read(x, "wrong, the whole purse", () -> x.gain(1, at, 1), -50);
            x.branch(at, 1);
            purses(x, 25, 75, 0);
        }
    }

    private static void gainOfNothing() {
        about("Promise 18, gain", "by how much the purse of an oracle would change by a branch", "not at all");
        Run x = new Run();
        x.oracle(0, 1, 50);
        x.oracle(0, 0, 50);
        x.oracle(0, 0, 0);
        for (int taken = 0; taken <= 1; taken++) {
            int way = taken;
            read(x, "nobody has a seat", () -> x.gain(0, 0, way), 0);
        }
        x.seat(0, 0);
        x.seat(2, 0);
        for (int taken = 0; taken <= 1; taken++) {
            int way = taken;
            read(x, "the only other one is ruined", () -> x.gain(0, 0, way), 0);
            read(x, "ruined", () -> x.gain(2, 0, way), 0);
            read(x, "no seat", () -> x.gain(1, 0, way), 0);
        }
        x.give(2, 1);
        x.set(1, 50);
        read(x, "a bet of one coin, half of it rounded down", () -> x.gain(0, 0, 1), 1);
        x.oracle(0, 1, 1);
        x.seat(3, 2);
        read(x, "right, but it gets nothing", () -> x.gain(3, 0, 1), 0);
        read(x, "right, but it gets nothing, rounded down", () -> x.gain(0, 0, 1), 0);
        read(x, "wrong", () -> x.gain(2, 0, 1), -1);
    }

    private static void gainOfCreditors() {
        about("Promise 18, gain", "by how much the purse of an oracle would change by a branch", "what is paid back");
        Run x = rivals(50, 50);
        x.oracle(0, 1, 100);
        x.lend(2, 0, 2);
        x.lend(1, 0, 20);
        read(x, "the debtor", () -> x.gain(0, 0, 1), 3);
        read(x, "a creditor without a seat", () -> x.gain(2, 0, 1), 2);
        read(x, "a creditor that was wrong", () -> x.gain(1, 0, 1), -5);
        x.set(2, 100);
        read(x, "the debtor, all for creditors", () -> x.gain(0, 0, 1), 0);
        read(x, "the first creditor", () -> x.gain(2, 0, 1), 2);
        read(x, "the second creditor, wrong", () -> x.gain(1, 0, 1), -2);
        read(x, "the debtor, wrong", () -> x.gain(0, 0, 0), -5);
        read(x, "the first creditor, the debtor was wrong", () -> x.gain(2, 0, 0), 0);
        due("loans are as they were", x.loanOf(0, 2) + x.loanOf(1, 2), 22);
    }

    private static void gainOutOfRange() {
        about("Promise 18, gain", OUT_OF_RANGE);
        Run x = busy();
        for (int taken : outside(0, 1)) {
            for (int oracle = 0; oracle <= 4; oracle++) {
                int each = oracle;
                refused(x, "gain of " + oracle + ", taken " + taken, () -> x.gain(each, 0, taken), INVALID);
            }
        }
        refused(x, "all out of range", () -> x.gain(5, 64, 2), INVALID);
    }

    // ---- Promise 19

    private static void doomOfTheRuined() {
        about("Promise 19, doom", "Returns how many, 0 if it is ruined");
        for (int kind = 0; kind <= 4; kind++) {
            Run x = new Run();
            x.oracle(kind, 0, 0);
            for (int taken = 0; taken <= 1; taken++) {
                int way = taken;
                read(x, "no seat", () -> x.doom(0, 0, way), 0);
            }
            x.seat(0, 2);
            for (int taken = 0; taken <= 1; taken++) {
                int way = taken;
                read(x, "a seat", () -> x.doom(0, 63, way), 0);
            }
            x.give(0, 1);
            refused(x, "one coin, alone", () -> x.doom(0, 0, 1), NOT_FOUND);
        }
    }

    private static void doomAtItsEnds() {
        about("Promise 19, doom", "NOT_FOUND if it would not be ruined by 100 of them");
        int[] purses = {0, 1, 2, 99, 100, 101, 102, 9999};
        int[] wanted = {0, 1, 2, 99, 100, NOT_FOUND, NOT_FOUND, NOT_FOUND};
        for (int i = 0; i < purses.length; i++) {
            for (int loser = 0; loser <= 1; loser++) {
                int each = loser;
                Run x = rivals(loser == 0 ? purses[i] : 50, loser == 0 ? 50 : purses[i]);
                x.set(0, 1);
                read(x, "a purse of " + purses[i], () -> x.doom(each, 0, each), wanted[i]);
                read(x, "a purse of " + purses[i] + ", address 63", () -> x.doom(each, 63, each), wanted[i]);
            }
        }
    }

    private static void doomByUnits() {
        about("Promise 19, doom", "by how many branches of one address .. an oracle would be ruined", "50 coins each");
        int[] purses = {1, 49, 50, 51, 100, 101, 4950, 4951, 5000, 5001};
        int[] wanted = {1, 1, 1, 2, 2, 3, 99, 100, 100, NOT_FOUND};
        for (int i = 0; i < purses.length; i++) {
            Run x = rivals(50, purses[i]);
            x.set(0, 50);
            read(x, "a purse of " + purses[i], () -> x.doom(1, 0, 1), wanted[i]);
        }
    }

    private static void doomOfWinners() {
        about("Promise 19, doom", "NOT_FOUND if it would not be ruined by 100 of them", "it wins, no bet, no seat");
        Run x = rivals(1, 1);
        refused(x, "it wins", () -> x.doom(0, 0, 1), NOT_FOUND);
        refused(x, "the other one wins", () -> x.doom(1, 0, 0), NOT_FOUND);
        read(x, "it loses", () -> x.doom(0, 0, 0), 1);
        x.stand(1);
        refused(x, "no bet, wrong", () -> x.doom(0, 0, 0), NOT_FOUND);
        refused(x, "no seat, wrong", () -> x.doom(1, 0, 1), NOT_FOUND);
    }

    private static void doomOfTables() {
        about("Promise 19, doom", "by how many branches of one address .. an oracle would be ruined", "a table learns");
        int[] purses = {10, 11, 15, 16};
        int[] wanted = {1, 2, 2, NOT_FOUND};
        for (int i = 0; i < purses.length; i++) {
            Run x = rivals(100, 9999);
            x.oracle(1, 0, purses[i]);
            x.branch(0, 0);
            x.seat(2, 1);
            read(x, "a purse of " + purses[i], () -> x.doom(2, 0, 1), wanted[i]);
            read(x, "not taken", () -> x.doom(2, 0, 0), NOT_FOUND);
            due("its counter is as it was", x.counter(2, 0), 0);
        }
    }

    private static void doomPutOff() {
        about("Promise 19, doom", "an oracle would be ruined", "not by a branch that empties its purse, but pays back");
        Run x = rivals(50, 15);
        x.lend(1, 0, 10);
        read(x, "5, 2 and 1 coins", () -> x.doom(1, 0, 1), 3);
        x.set(2, 0);
        read(x, "nothing for creditors", () -> x.doom(1, 0, 1), 1);
        x.set(2, 100);
        read(x, "5 and 5 coins, the loan is paid back then", () -> x.doom(1, 0, 1), 3);
    }

    private static void doomOutOfRange() {
        about("Promise 19, doom", OUT_OF_RANGE);
        Run x = busy();
        for (int taken : outside(0, 1)) {
            for (int oracle = 0; oracle <= 4; oracle++) {
                int each = oracle;
                refused(x, "doom of " + oracle + ", taken " + taken, () -> x.doom(each, 0, taken), INVALID);
            }
        }
        refused(x, "all out of range", () -> x.doom(5, 64, 2), INVALID);
        refused(x, "a ruined one, both others out of range", () -> x.doom(4, -1, -1), INVALID);
    }

    // ---- Promise 20

    private static void bestRowOfEachLength() {
        about("Promise 20, bestRow", "times: 1 to 5 branches");
        Run x = rivals(9999, 9999);
        for (int times = 1; times <= 5; times++) {
            int t = times;
            read(x, "all taken, " + t, () -> x.bestRow(0, 0, t, 0), (1 << t) - 1);
            read(x, "its purse, " + t, () -> x.bestRow(0, 63, t, 1), 9999 + 5 * t);
            read(x, "none taken, " + t, () -> x.bestRow(1, 63, t, 0), 0);
            read(x, "its purse, " + t, () -> x.bestRow(1, 0, t, 1), 9999 + 5 * t);
        }
    }

    private static void bestRowIsTheFirst() {
        about("Promise 20, bestRow", "of several rows the one that comes first as a number whose first digit is the "
                + "first branch, 0 or 1");
        // The other one has 5 coins: as soon as it is ruined, all that it had is won, by whatever row.
        int[] rows = {1, 2, 3, 6, 7};
        Run x = rivals(9999, 5);
        for (int times = 1; times <= 5; times++) {
            int t = times;
            read(x, "the first of several rows, " + t, () -> x.bestRow(0, 0, t, 0), rows[t - 1]);
            read(x, "its purse, " + t, () -> x.bestRow(0, 0, t, 1), 10004);
        }
    }

    private static void bestRowWithoutBets() {
        about("Promise 20, bestRow", "of several rows the one that comes first", "of all rows");
        Run x = rivals(50, 0);
        x.oracle(1, 5, 7);
        for (int times = 1; times <= 5; times++) {
            int t = times;
            int[] purses = {50, 0, 7};
            for (int oracle = 0; oracle <= 2; oracle++) {
                int each = oracle;
                read(x, "row of " + oracle, () -> x.bestRow(each, 0, t, 0), 0);
                read(x, "purse of " + oracle, () -> x.bestRow(each, 63, t, 1), purses[oracle]);
            }
        }
        Run y = rivals(5, 5);
        y.lend(0, 1, 5);
        y.set(2, 100);
        read(y, "a ruined creditor, there is no bet", () -> y.bestRow(0, 0, 5, 1), 0);
        y.oracle(0, 1, 50);
        y.seat(2, 2);
        read(y, "a ruined creditor is paid back", () -> y.bestRow(0, 0, 1, 1), 5);
        read(y, "when its debtor wins", () -> y.bestRow(0, 0, 1, 0), 0);
    }

    private static void bestRowOutOfRange() {
        about("Promise 20, bestRow", OUT_OF_RANGE);
        Run x = busy();
        for (int times : outside(1, 5)) {
            refused(x, "times " + times, () -> x.bestRow(0, 0, times, 0), INVALID);
            refused(x, "times " + times + ", its purse", () -> x.bestRow(4, 63, times, 1), INVALID);
        }
        for (int what : outside(0, 1)) {
            refused(x, "what " + what, () -> x.bestRow(0, 0, 1, what), INVALID);
            refused(x, "what " + what + ", 5 branches", () -> x.bestRow(4, 63, 5, what), INVALID);
        }
        refused(x, "all out of range", () -> x.bestRow(5, 64, 6, 2), INVALID);
    }

    // ---- Promise 21

    private static void countWithinRanges() {
        about("Promise 21, count", "0: oracles; .. 10: the length of the text; 20 to 22: the settings 0 to 2");
        Run x = busy();
        int[] counts = {5, 4, 2, 9, 199, 122, 9, 9, 3, 4, 24};
        for (int i = 0; i < counts.length; i++) {
            int what = i;
            read(x, "count(" + i + ")", () -> x.count(what), counts[i]);
        }
        x.set(0, 1);
        x.set(1, 50);
        x.set(2, 100);
        int[] settings = {1, 50, 100};
        for (int i = 20; i <= 22; i++) {
            int what = i;
            read(x, "count(" + i + ")", () -> x.count(what), settings[i - 20]);
        }
    }

    private static void countOfNoneAndAll() {
        about("Promise 21, count", "0: oracles; 1: oracles that have a seat; 2: oracles that are ruined",
                "none and all");
        Run x = new Run();
        for (int i = 0; i < 6; i++) {
            due("oracles", x.count(0), i);
            due("ruined", x.count(2), i);
            x.oracle(0, i & 1, 0);
        }
        due("oracles", x.count(0), 6);
        due("ruined, without a seat", x.count(2), 6);
        due("that have a seat", x.count(1), 0);
        for (int i = 0; i < 4; i++) {
            x.seat(i, i / 2 * 2);
            due("that have a seat", x.count(1), i + 1);
        }
        due("ruined, with a seat or without", x.count(2), 6);
        x.branch(0, 1);
        due("bets of the ruined", x.count(7), 0);
        x.give(0, 9);
        x.give(1, 9);
        due("ruined", x.count(2), 4);
        x.branch(0, 1);
        due("bets", x.count(7), 1);
        due("branches", x.count(6), 2);
        x.undo();
        due("bets, undone", x.count(7), 0);
        due("branches, undone", x.count(6), 1);
    }

    private static void countOfCoins() {
        about("Promise 21, count", "3: coins of the house; 4: coins in all purses and of the house");
        Run x = rivals(400, 400);
        x.oracle(3, 2, 333);
        x.oracle(2, 3, 222);
        x.oracle(4, 0, 111);
        x.seat(2, 1);
        x.seat(3, 1);
        x.seat(4, 2);
        x.set(0, 37);
        x.set(1, 23);
        x.lend(2, 4, 99);
        int house = 0;
        for (int i = 0; i < 60; i++) {
            x.branch(i & 7, i % 5 == 0 || i % 3 == 1 ? 1 : 0);
            due("all coins", x.count(4), 1466);
            CHECKS.that("the house has lost coins", x.count(3) >= house);
            house = x.count(3);
        }
        CHECKS.that("the house has won nothing", house > 0);
        x.give(0, 34);
        due("all coins, a gift", x.count(4), 1500);
        due("the house, a gift", x.count(3), house);
    }

    private static void countOutOfRange() {
        about("Promise 21, count", "INVALID_ARGUMENT if what is out of range");
        Run x = busy();
        for (int what : outside(0, 22)) {
            refused(x, "count(" + what + ")", () -> x.count(what), INVALID);
        }
        for (int what = 11; what <= 19; what++) {
            int each = what;
            refused(x, "count(" + what + ")", () -> x.count(each), INVALID);
        }
    }
}
