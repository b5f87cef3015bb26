/** The boundary cases of promises 9 to 14: what there is of oracles, counters, loans, aliases, shares, the rich. */
public final class WhatThereIsEdgesTest extends TestBase {
    private static final String OUT_OF_RANGE = "INVALID_ARGUMENT if an argument is out of range";

    private WhatThereIsEdgesTest() {
    }

    public static void main(String[] args) {
        oracleOfWithinRanges();
        oracleOfOutOfRange();
        oracleOfWithoutSeat();
        oracleOfRuins();
        oracleOfDebts();
        counterWithinRanges();
        counterBelowZero();
        counterNotFound();
        loanOfWithinRanges();
        loanOfOutOfRange();
        aliasesWithinRanges();
        aliasesOutOfRange();
        aliasesWithoutTable();
        aliasesOfNone();
        aliasesOfAll();
        aliasesAsTheHistoryIs();
        shareAtItsEnds();
        shareErrors();
        richPlaces();
        richTies();
        richErrors();
        CHECKS.end();
    }

    // ---- Promise 9

    private static void oracleOfWithinRanges() {
        about("Promise 9, oracleOf", "0: its kind; .. 10: what is owed to it in all");
        Run x = busy();
        int[][] wanted = {
            {0, 1, 74, 0, 0, 6, 3, 378, 0, 0, 52},
            {1, 2, 40, 1, 0, 3, 6, 42, 0, 18, 7},
            {4, 0, 76, 2, 0, 4, 5, 149, 0, 34, 0},
            {3, 5, 0, 1, 1, 1, 5, 16, 2, 7, 0},
            {0, 0, 0, NOT_FOUND, NOT_FOUND, 0, 0, 0, 0, 0, 0}};
        for (int oracle = 0; oracle <= 4; oracle++) {
            for (int what = 0; what <= 10; what++) {
                int each = oracle;
                int asked = what;
                read(x, "oracleOf(" + oracle + ", " + what + ")", () -> x.oracleOf(each, asked),
                        wanted[oracle][what]);
            }
        }
    }

    private static void oracleOfOutOfRange() {
        about("Promise 9, oracleOf", OUT_OF_RANGE);
        Run x = busy();
        for (int what : outside(0, 10)) {
            for (int oracle = 0; oracle <= 4; oracle++) {
                int each = oracle;
                refused(x, "oracleOf(" + oracle + ", " + what + ")", () -> x.oracleOf(each, what), INVALID);
            }
        }
        for (int what = 0; what <= 10; what++) {
            int asked = what;
            refused(x, "oracleOf(5, " + what + ")", () -> x.oracleOf(5, asked), INVALID);
        }
        refused(x, "both out of range", () -> x.oracleOf(-1, -1), INVALID);
    }

    private static void oracleOfWithoutSeat() {
        about("Promise 9, oracleOf", "NOT_FOUND for 3 and 4 if it has no seat");
        Run x = busy();
        refused(x, "booth of one that never sat", () -> x.oracleOf(4, 3), NOT_FOUND);
        refused(x, "seat of one that never sat", () -> x.oracleOf(4, 4), NOT_FOUND);
        x.stand(3);
        refused(x, "booth of one that stood up", () -> x.oracleOf(3, 3), NOT_FOUND);
        refused(x, "seat of one that stood up", () -> x.oracleOf(3, 4), NOT_FOUND);
        x.undo();
        due("booth of one that sits again", x.oracleOf(3, 3), 1);
        due("seat of one that sits again", x.oracleOf(3, 4), 1);
    }

    private static void oracleOfRuins() {
        about("Promise 9, oracleOf", "how many branches have ruined it (its purse was not empty ahead of it, and was "
                + "behind all of it)");
        Run x = rivals(100, 6);
        x.branch(0, 1);
        due("1 coin is left", x.oracleOf(1, 8), 0);
        x.branch(0, 1);
        due("none is left", x.oracleOf(1, 8), 1);
        x.branch(0, 1);
        due("it was empty ahead of it", x.oracleOf(1, 8), 1);
        x.give(1, 5);
        x.branch(0, 1);
        due("ruined again", x.oracleOf(1, 8), 2);
        x.lend(0, 1, 9);
        x.lend(1, 0, 9);
        due("emptied by a loan", x.oracleOf(1, 8), 2);
        due("the one that wins", x.oracleOf(0, 8), 0);
        x.undo();
        x.undo();
        x.undo();
        due("undone", x.oracleOf(1, 8), 1);
        Run y = rivals(5, 5);
        y.oracle(1, 0, 5);
        y.seat(2, 1);
        y.branch(0, 1);
        due("two by one branch", y.oracleOf(1, 8) + y.oracleOf(2, 8), 2);
        due("not the third", y.oracleOf(0, 8), 0);
    }

    private static void oracleOfDebts() {
        about("Promise 9, oracleOf", "9: what it owes in all; 10: what is owed to it in all");
        Run x = rivals(100, 100);
        due("owes nothing", x.oracleOf(0, 9), 0);
        due("nothing is owed to it", x.oracleOf(0, 10), 0);
        for (int i = 1; i <= 8; i++) {
            x.lend(i % 2, 1 - i % 2, i);
            int odd = (i + 1) / 2 * ((i + 1) / 2);
            int even = i / 2 * (i / 2 + 1);
            due("0 owes", x.oracleOf(0, 9), odd);
            due("1 is owed", x.oracleOf(1, 10), odd);
            due("1 owes", x.oracleOf(1, 9), even);
            due("0 is owed", x.oracleOf(0, 10), even);
        }
    }

    // ---- Promise 10

    private static void counterWithinRanges() {
        about("Promise 10, counter", "index: number of the counter in its table");
        Run x = busy();
        String byAddress = "1213";
        String mixed = "11111111110111211121111101221202";
        for (int i = 0; i < byAddress.length(); i++) {
            int index = i;
            read(x, "counter(1, " + i + ")", () -> x.counter(1, index), byAddress.charAt(i) - '0');
        }
        for (int i = 0; i < mixed.length(); i++) {
            due("counter(3, " + i + ")", x.counter(3, i), mixed.charAt(i) - '0');
        }
        read(x, "the last one", () -> x.counter(3, 31), 2);
    }

    private static void counterBelowZero() {
        about("Promise 10, counter", "INVALID_ARGUMENT if there is no such oracle or index is negative");
        Run x = busy();
        for (int index : new int[] {-1, -2, -4, -32, -256, -65536, MIN}) {
            for (int oracle = 0; oracle <= 4; oracle++) {
                int each = oracle;
                refused(x, "counter(" + oracle + ", " + index + ")", () -> x.counter(each, index), INVALID);
            }
        }
        refused(x, "no such oracle, index 0", () -> x.counter(5, 0), INVALID);
        refused(x, "no such oracle, index MAX", () -> x.counter(5, MAX), INVALID);
        refused(x, "no such oracle, index -1", () -> x.counter(-1, -1), INVALID);
    }

    private static void counterNotFound() {
        about("Promise 10, counter", "NOT_FOUND if it has not so many, or no table");
        Run x = busy();
        for (int index : new int[] {32, 33, 64, 256, 65536, MAX}) {
            for (int oracle = 0; oracle <= 4; oracle++) {
                int each = oracle;
                refused(x, "counter(" + oracle + ", " + index + ")", () -> x.counter(each, index), NOT_FOUND);
            }
        }
        refused(x, "4 of 4", () -> x.counter(1, 4), NOT_FOUND);
        refused(x, "31 of 4", () -> x.counter(1, 31), NOT_FOUND);
        for (int oracle = 0; oracle <= 4; oracle += 2) {
            int each = oracle;
            refused(x, "no table: " + oracle, () -> x.counter(each, 0), NOT_FOUND);
            refused(x, "no table: " + oracle, () -> x.counter(each, 1), NOT_FOUND);
        }
    }

    // ---- Promise 11

    private static void loanOfWithinRanges() {
        about("Promise 11, loanOf", "0: the creditor; 1: the debtor; 2: what is owed");
        Run x = busy();
        int[][] wanted = {{0, 1, 18}, {1, 3, 7}, {0, 2, 34}};
        for (int loan = 0; loan <= 2; loan++) {
            for (int what = 0; what <= 2; what++) {
                int each = loan;
                int asked = what;
                read(x, "loanOf(" + loan + ", " + what + ")", () -> x.loanOf(each, asked), wanted[loan][what]);
            }
        }
        Run y = rivals(100, 100);
        for (int loan = 0; loan <= 7; loan++) {
            y.lend(loan % 2, 1 - loan % 2, 9 - loan);
        }
        due("the first of 8", y.loanOf(0, 2), 9);
        due("the last of 8", y.loanOf(7, 2), 2);
        due("its creditor", y.loanOf(7, 0), 1);
        due("its debtor", y.loanOf(7, 1), 0);
        refused(y, "behind the last of 8", () -> y.loanOf(8, 2), INVALID);
    }

    private static void loanOfOutOfRange() {
        about("Promise 11, loanOf", OUT_OF_RANGE);
        Run x = busy();
        for (int what : outside(0, 2)) {
            for (int loan = 0; loan <= 2; loan++) {
                int each = loan;
                refused(x, "loanOf(" + loan + ", " + what + ")", () -> x.loanOf(each, what), INVALID);
            }
        }
        refused(x, "both out of range", () -> x.loanOf(3, 3), INVALID);
    }

    // ---- Promise 12

    private static void aliasesWithinRanges() {
        about("Promise 12, aliases", "address: 0 to 63");
        Run x = busy();
        read(x, "address 0, none of 63 and 5", () -> x.aliases(1, 0), 0);
        read(x, "address 1, 5", () -> x.aliases(1, 1), 1);
        read(x, "address 63, itself", () -> x.aliases(1, 63), 0);
        read(x, "address 3, 63", () -> x.aliases(1, 3), 1);
        read(x, "address 31, 63", () -> x.aliases(3, 31), 1);
        read(x, "address 37, 5", () -> x.aliases(3, 37), 1);
        read(x, "address 5, itself", () -> x.aliases(3, 5), 0);
        read(x, "address 0, none of 63 and 5", () -> x.aliases(3, 0), 0);
    }

    private static void aliasesOutOfRange() {
        about("Promise 12, aliases", OUT_OF_RANGE);
        Run x = busy();
        for (int address : outside(0, 63)) {
            for (int oracle = 0; oracle <= 3; oracle++) {
                int each = oracle;
                refused(x, "aliases(" + oracle + ", " + address + ")", () -> x.aliases(each, address), INVALID);
            }
        }
        refused(x, "both out of range", () -> x.aliases(5, 64), INVALID);
    }

    private static void aliasesWithoutTable() {
        about("Promise 12, aliases", "NOT_FOUND if it has no table");
        Run x = busy();
        for (int oracle = 0; oracle <= 4; oracle += 2) {
            int each = oracle;
            refused(x, "oracle " + oracle + ", address 0", () -> x.aliases(each, 0), NOT_FOUND);
            refused(x, "oracle " + oracle + ", address 63", () -> x.aliases(each, 63), NOT_FOUND);
        }
    }

    private static Run tables() {
        Run x = new Run();
        x.oracle(1, 0, 10);
        x.oracle(1, 5, 10);
        x.oracle(2, 5, 10);
        x.oracle(3, 5, 10);
        x.oracle(3, 1, 0);
        return x;
    }

    private static void aliasesOf(Run x, int address, int... wanted) {
        for (int oracle = 0; oracle < wanted.length; oracle++) {
            due("aliases(" + oracle + ", " + address + ")", x.aliases(oracle, address), wanted[oracle]);
        }
    }

    private static void aliasesOfNone() {
        about("Promise 12, aliases", "Counts the addresses of branches so far, other than one");
        Run x = tables();
        aliasesOf(x, 0, 0, 0, 0, 0, 0);
        aliasesOf(x, 63, 0, 0, 0, 0, 0);
        x.branch(63, 1);
        x.branch(63, 0);
        aliasesOf(x, 63, 0, 0, 0, 0, 0);
        aliasesOf(x, 31, 1, 1, 1, 1, 1);
        aliasesOf(x, 0, 1, 0, 1, 0, 0);
        x.branch(0, 1);
        aliasesOf(x, 0, 1, 0, 1, 0, 0);
        aliasesOf(x, 63, 1, 0, 1, 0, 0);
        aliasesOf(x, 32, 2, 1, 2, 1, 1);
        x.undo();
        aliasesOf(x, 32, 1, 0, 1, 0, 0);
        write(x, "take 0 2;");
        x.play();
        aliasesOf(x, 32, 2, 1, 2, 1, 1);
        x.oracle(1, 0, 10);
        due("branches ahead of the oracle count", x.aliases(5, 32), 2);
    }

    private static void aliasesOfAll() {
        about("Promise 12, aliases", "Counts the addresses of branches so far, other than one", "all have come");
        Run x = tables();
        for (int address = 0; address <= 63; address++) {
            x.branch(address, address & 1);
        }
        aliasesOf(x, 0, 63, 1, 63, 1, 31);
        aliasesOf(x, 63, 63, 1, 63, 1, 31);
        aliasesOf(x, 31, 63, 1, 63, 1, 31);
        aliasesOf(x, 32, 63, 1, 63, 1, 31);
        x.undo();
        aliasesOf(x, 62, 62, 1, 62, 1, 31);
        aliasesOf(x, 31, 62, 0, 62, 0, 30);
        aliasesOf(x, 63, 63, 1, 63, 1, 31);
    }

    private static void aliasesAsTheHistoryIs() {
        about("Promise 12, aliases", "(as the history is now)");
        Run x = tables();
        x.branch(2, 1);
        x.branch(5, 0);
        x.branch(34, 1);
        for (int i = 0; i < 9; i++) {
            aliasesOf(x, 2, 2, 1, 2, 1, 1);
            aliasesOf(x, 5, 2, 0, 2, 0, 0);
            aliasesOf(x, 37, 3, 1, 3, 1, 1);
            x.branch(34, i & 1);
        }
    }

    // ---- Promise 13

    private static void shareAtItsEnds() {
        about("Promise 13, share", "the bits of how often an oracle was right, divided by how often it was right or "
                + "wrong, in floats");
        Run x = rivals(9999, 9999);
        x.branch(0, 1);
        read(x, "1 of 1", () -> x.share(0), FULL_ONE);
        read(x, "0 of 1", () -> x.share(1), 0);
        x.branch(0, 0);
        read(x, "1 of 2", () -> x.share(0), 0x3F000000);
        x.branch(0, 0);
        read(x, "1 of 3, rounded up", () -> x.share(0), 0x3EAAAAAB);
        read(x, "2 of 3, rounded up", () -> x.share(1), 0x3F2AAAAB);
        branches(x, 0, "00");
        read(x, "1 of 5, rounded up", () -> x.share(0), 0x3E4CCCCD);
        read(x, "4 of 5, rounded up", () -> x.share(1), 0x3F4CCCCD);
        branches(x, 0, "00");
        read(x, "1 of 7, rounded up", () -> x.share(0), 0x3E124925);
        x.stand(0);
        read(x, "without a seat it stays", () -> x.share(0), 0x3E124925);
        for (int i = 8; i <= 200; i++) {
            x.branch(0, 0);
        }
        x.stand(1);
        due("199 of 200", x.share(1), bits(199, 200));
        Run z = rivals(9999, 9999);
        branches(z, 0, "1111111000");
        read(z, "7 of 10, rounded down", () -> z.share(0), 0x3F333333);
        read(z, "3 of 10, rounded up", () -> z.share(1), 0x3E99999A);
        Run y = rivals(9999, 9999);
        for (int i = 0; i < 400; i++) {
            y.branch(0, 1);
        }
        due("400 of 400", y.share(0), FULL_ONE);
        due("0 of 400", y.share(1), 0);
    }

    private static void shareErrors() {
        about("Promise 13, share", "INVALID_ARGUMENT; NOT_FOUND if it was neither so far");
        Run x = rivals(50, 0);
        refused(x, "no branch", () -> x.share(0), NOT_FOUND);
        x.oracle(0, 1, 50);
        x.branch(0, 1);
        due("one that was right", x.share(0), FULL_ONE);
        refused(x, "one that was ruined", () -> x.share(1), NOT_FOUND);
        refused(x, "one without a seat", () -> x.share(2), NOT_FOUND);
        refused(x, "oracle 3", () -> x.share(3), INVALID);
        refused(x, "oracle -1", () -> x.share(-1), INVALID);
        x.undo();
        refused(x, "the branch is undone", () -> x.share(0), NOT_FOUND);
    }

    // ---- Promise 14

    private static void riches(Run x, int... order) {
        for (int place = 0; place < order.length; place++) {
            due("rich(" + place + ")", x.rich(place), order[place]);
        }
        refused(x, "rich(" + order.length + ")", () -> x.rich(order.length), NOT_FOUND);
    }

    private static void richPlaces() {
        about("Promise 14, rich", "0 for the richest one, and so on .. NOT_FOUND if there are not so many");
        Run x = new Run();
        riches(x);
        x.oracle(0, 0, 0);
        riches(x, 0);
        x.oracle(1, 5, 9999);
        riches(x, 1, 0);
        x.oracle(4, 0, 9998);
        riches(x, 1, 2, 0);
        x.oracle(0, 0, 1);
        x.oracle(0, 0, 5000);
        x.oracle(0, 0, 2);
        riches(x, 1, 2, 4, 5, 3, 0);
        for (int place = 0; place <= 5; place++) {
            int asked = place;
            read(x, "rich(" + place + ")", () -> x.rich(asked), new int[] {1, 2, 4, 5, 3, 0}[place]);
        }
    }

    private static void richTies() {
        about("Promise 14, rich", "of several with as many the one with the lowest number is first");
        Run x = new Run();
        for (int i = 0; i < 6; i++) {
            x.oracle(0, 0, 5);
        }
        riches(x, 0, 1, 2, 3, 4, 5);
        x.give(4, 1);
        riches(x, 4, 0, 1, 2, 3, 5);
        x.give(2, 1);
        riches(x, 2, 4, 0, 1, 3, 5);
        x.lend(0, 5, 1);
        riches(x, 2, 4, 5, 1, 3, 0);
        Run y = new Run();
        for (int i = 0; i < 3; i++) {
            y.oracle(4, 0, 0);
        }
        riches(y, 0, 1, 2);
    }

    private static void richErrors() {
        about("Promise 14, rich", "INVALID_ARGUMENT if place is negative; NOT_FOUND if there are not so many");
        Run x = busy();
        for (int place : new int[] {-1, -2, -5, -256, -65536, MIN}) {
            refused(x, "rich(" + place + ")", () -> x.rich(place), INVALID);
        }
        for (int place : new int[] {5, 6, 256, 65536, MAX}) {
            refused(x, "rich(" + place + ")", () -> x.rich(place), NOT_FOUND);
        }
        Run y = new Run();
        refused(y, "place 0 of none", () -> y.rich(0), NOT_FOUND);
        refused(y, "place -1 of none", () -> y.rich(-1), INVALID);
    }
}
