/** The boundary cases of "What it is" and of the section "Terms": branches, oracles, booths, settings. */
public final class TermsEdgesTest extends TestBase {
    private TermsEdgesTest() {
    }

    public static void main(String[] args) {
        busyScene();
        lastCall();
        lastCallBehindManyBranches();
        historyAtItsEnds();
        sixOracles();
        fixedSaysItsNumber();
        tableSizes();
        countersSayFromTwo();
        counterByAddress();
        counterByThePast();
        counterMixed();
        contraryOfAsMany();
        contraryOfNobody();
        contraryOfOthersAlone();
        ruinedIsEmpty();
        boothsAndKinds();
        twoSeats();
        oneSeatOrNone();
        firstSettings();
        CHECKS.end();
    }

    // The scene that refused calls are tried on has what they could change.
    private static void busyScene() {
        about("The scene of refused calls");
        Run x = busy();
        int[] counts = {5, 4, 2, 9, 199, 122, 9, 9, 3, 4, 24};
        for (int what = 0; what < counts.length; what++) {
            due("count " + what, x.count(what), counts[what]);
        }
        due("its text", x.fault(2), 9);
    }

    // ---- What it is

    private static void lastCall() {
        about("What it is", "An object is used for at most 512 calls");
        Run x = rivals(9999, 9999);
        for (int i = 0; i < 253; i++) {
            due("branch", x.branch(i & 63, 1), 5);
            due("branch", x.branch(i & 63, 0), 5);
        }
        due("the 511th call", x.count(6), 506);
        due("the 512th call", x.oracleOf(0, 5), 253);
        due("calls that are left", x.callsLeft(), 0);
    }

    private static void lastCallBehindManyBranches() {
        about("What it is", "An object is used for at most 512 calls", "calls of play, with the longest texts");
        Run x = new Run();
        x.oracle(0, 1, 1);
        x.seat(0, 0);
        write(x, "take 1 40;take 0 40;take 9 40;take 3 40;take 4 40;take 7 40;take 8 40;skip 5 37;");
        due("length", x.count(10), 80);
        int plays = x.callsLeft() - 4;
        for (int i = 0; i < plays; i++) {
            due("play", x.play(), 317);
        }
        due("branches", x.count(6), 317 * plays);
        due("right", x.oracleOf(0, 5), 280 * plays);
        due("wrong", x.oracleOf(0, 6), 37 * plays);
        due("the 512th call", x.share(0), bits(280 * plays, 317 * plays));
    }

    // ---- Branches

    private static void histories(Run x, String ways, int... wanted) {
        for (int i = 0; i < wanted.length; i++) {
            x.branch(0, ways.charAt(i) - '0');
            due("history behind branch " + x.count(6), x.count(5), wanted[i]);
        }
    }

    private static void historyAtItsEnds() {
        about("Branches", "0 at first: by a branch it becomes twice what it was, plus 1 if the branch is taken, "
                + "modulo 256");
        Run x = new Run();
        due("at first", x.count(5), 0);
        histories(x, "00", 0, 0);
        histories(x, "1", 1);
        histories(x, "0000000", 2, 4, 8, 16, 32, 64, 128);
        histories(x, "0", 0);
        histories(x, "11111111", 1, 3, 7, 15, 31, 63, 127, 255);
        histories(x, "11", 255, 255);
        histories(x, "0", 254);
        histories(x, "000000", 252, 248, 240, 224, 192, 128);
        undone(x, "from 128 to 1", () -> x.branch(0, 1), 0);
        histories(x, "1", 1);
        Run y = new Run();
        histories(y, "01010101", 0, 1, 2, 5, 10, 21, 42, 85);
        histories(y, "0101", 170, 85, 170, 85);
    }

    // ---- Oracles

    private static void sixOracles() {
        about("Oracles", "There are at most 6 oracles, numbered from 0");
        Run x = new Run();
        for (int i = 0; i < 6; i++) {
            due("the next one has no number yet", x.oracleOf(i, 2), INVALID);
            due("oracle", x.oracle(i % 5, 0, 10 + i), i);
            due("its purse", x.oracleOf(i, 2), 10 + i);
            due("oracles", x.count(0), i + 1);
        }
        refused(x, "a seventh", () -> x.oracle(1, 5, 9999), LIMIT);
        due("oracle 5", x.oracleOf(5, 2), 15);
        due("oracle 6", x.oracleOf(6, 2), INVALID);
        x.undo();
        due("room for a sixth again", x.oracle(4, 0, 1), 5);
        refused(x, "a seventh again", () -> x.oracle(4, 0, 1), LIMIT);
    }

    private static void fixedSaysItsNumber() {
        about("Oracles", "Kind 0, fixed: it always says its number, 0 or 1");
        Run x = new Run();
        x.oracle(0, 0, 9);
        x.oracle(0, 1, 9);
        for (String ways : new String[] {"0000", "1111"}) {
            branches(x, 0, ways);
            for (int address = 0; address <= 63; address += 63) {
                due("number 0", x.says(0, address), 0);
                due("number 1", x.says(1, address), 1);
            }
        }
    }

    private static void tableSizes() {
        about("Oracles", "have a table of as many counters as 2 to the power of its number, 0 to 5; each "
                + "counter is 0 to 3, 1 at first");
        for (int kind = 1; kind <= 3; kind++) {
            for (int number = 0; number <= 5; number++) {
                Run x = new Run();
                x.oracle(kind, number, 10);
                int size = new int[] {1, 2, 4, 8, 16, 32}[number];
                for (int index = 0; index < size; index++) {
                    due("counter " + index + " of " + size, x.counter(0, index), 1);
                }
                refused(x, "counter " + size + " of " + size, () -> x.counter(0, size), NOT_FOUND);
            }
        }
    }

    private static void countersSayFromTwo() {
        about("Oracles", "It says 1 if this counter is 2 or 3");
        for (int kind = 1; kind <= 3; kind++) {
            Run x = new Run();
            x.oracle(kind, 0, 10);
            due("counter 1", x.says(0, 0), 0);
            x.branch(0, 0);
            due("counter 0", x.says(0, 0), 0);
            branches(x, 0, "11");
            due("counter 2", x.says(0, 0), 1);
            x.branch(0, 1);
            due("counter 3", x.says(0, 0), 1);
            x.branch(0, 0);
            due("counter 2 again", x.says(0, 0), 1);
            x.branch(0, 0);
            due("counter 1 again", x.says(0, 0), 0);
        }
    }

    /** A branch of an address behind a history teaches this counter alone, until it is undone. */
    private static void touches(int kind, int number, int history, int address, int index) {
        Run x = new Run();
        for (int bit = 7; bit >= 0; bit--) {
            x.branch(63 - address, (history >> bit) & 1);
        }
        due("history", x.count(5), history);
        x.oracle(kind, number, 10);
        due("says ahead of it", x.says(0, address), 0);
        x.branch(address, 1);
        String call = "kind " + kind + ", number " + number + ", history " + history + ", address " + address;
        for (int each = 0; each < 1 << number; each++) {
            due(call + ": counter " + each, x.counter(0, each), each == index ? 2 : 1);
        }
        x.undo();
        due(call + ": counter before it", x.counter(0, index), 1);
    }

    private static void counterByAddress() {
        about("Oracles", "the number of the address modulo the size of the table (kind 1, by address)");
        touches(1, 5, 255, 0, 0);
        touches(1, 5, 255, 31, 31);
        touches(1, 5, 255, 32, 0);
        touches(1, 5, 0, 63, 31);
        touches(1, 4, 255, 15, 15);
        touches(1, 4, 0, 16, 0);
        touches(1, 3, 255, 7, 7);
        touches(1, 3, 255, 8, 0);
        touches(1, 2, 0, 7, 3);
        touches(1, 2, 255, 4, 0);
        touches(1, 1, 0, 63, 1);
        touches(1, 1, 255, 62, 0);
        touches(1, 0, 255, 63, 0);
    }

    private static void counterByThePast() {
        about("Oracles", "of the history modulo the size (kind 2, by the past)");
        touches(2, 5, 0, 63, 0);
        touches(2, 5, 31, 0, 31);
        touches(2, 5, 32, 63, 0);
        touches(2, 5, 255, 0, 31);
        touches(2, 5, 128, 31, 0);
        touches(2, 4, 15, 0, 15);
        touches(2, 4, 16, 15, 0);
        touches(2, 3, 7, 0, 7);
        touches(2, 3, 8, 7, 0);
        touches(2, 2, 4, 3, 0);
        touches(2, 1, 255, 0, 1);
        touches(2, 1, 254, 1, 0);
        touches(2, 0, 255, 63, 0);
    }

    private static void counterMixed() {
        about("Oracles", "or of both, bit by bit exclusive or, modulo the size (kind 3, mixed)");
        touches(3, 5, 0, 0, 0);
        touches(3, 5, 0, 63, 31);
        touches(3, 5, 0, 32, 0);
        touches(3, 5, 255, 63, 0);
        touches(3, 5, 255, 0, 31);
        touches(3, 5, 31, 31, 0);
        touches(3, 5, 16, 15, 31);
        touches(3, 5, 33, 32, 1);
        touches(3, 5, 240, 48, 0);
        touches(3, 2, 3, 1, 2);
        touches(3, 2, 1, 2, 3);
        touches(3, 1, 1, 1, 0);
        touches(3, 1, 254, 1, 1);
        touches(3, 0, 255, 0, 0);
    }

    private static void contraryOfAsMany() {
        about("Oracles", "the contrary of those that have more, and 0 if they have as many");
        Run x = rivals(50, 50);
        x.oracle(4, 0, 7);
        due("as many", x.says(2, 0), 0);
        x.give(1, 1);
        due("those that say 0 have 1 more", x.says(2, 0), 1);
        x.give(0, 1);
        due("as many again", x.says(2, 63), 0);
        x.give(0, 1);
        due("those that say 1 have 1 more", x.says(2, 0), 0);
        Run y = rivals(30, 10);
        y.oracle(1, 0, 20);
        y.oracle(4, 0, 7);
        y.seat(2, 1);
        due("10 and 20 together are as many as 30", y.says(3, 0), 0);
        y.give(2, 1);
        due("together they have 1 more", y.says(3, 0), 1);
    }

    private static void contraryOfNobody() {
        about("Oracles", "and 0 if they have as many", "nobody is in");
        Run x = new Run();
        x.oracle(4, 0, 7);
        due("alone", x.says(0, 0), 0);
        x.oracle(0, 0, 50);
        due("the other one has no seat", x.says(0, 0), 0);
        x.oracle(0, 0, 0);
        x.seat(2, 0);
        due("the one with a seat is ruined", x.says(0, 0), 0);
        x.give(2, 1);
        due("it has one coin", x.says(0, 0), 1);
        x.stand(2);
        due("it stood up", x.says(0, 0), 0);
        x.seat(0, 2);
        due("it has a seat itself", x.says(0, 0), 0);
    }

    private static void contraryOfOthersAlone() {
        about("Oracles", "of all oracles of other kinds that have a seat and are not ruined");
        Run x = new Run();
        x.oracle(4, 0, 1);
        x.oracle(4, 0, 9999);
        x.seat(0, 2);
        x.seat(1, 2);
        due("two contrary ones say 0", x.says(0, 0), 0);
        x.oracle(0, 0, 1);
        x.seat(2, 0);
        due("the first contrary one", x.says(0, 0), 1);
        due("the second one, whatever the first one says", x.says(1, 0), 1);
        x.oracle(0, 1, 1);
        x.seat(3, 0);
        due("as many, whatever contrary ones have", x.says(0, 0), 0);
        due("as many, whatever contrary ones have", x.says(1, 0), 0);
        x.lend(3, 2, 1);
        due("one is ruined, the other one has more", x.says(0, 0), 1);
    }

    private static void ruinedIsEmpty() {
        about("Oracles", "An oracle is ruined as long as its purse is empty");
        Run x = new Run();
        x.oracle(0, 0, 0);
        due("ruined from the first", x.count(2), 1);
        x.oracle(0, 1, 1);
        due("with 1 coin it isn't", x.count(2), 1);
        x.seat(0, 0);
        due("its stake", x.stake(0, 0), 0);
        due("doom", x.doom(0, 0, 0), 0);
        x.give(0, 1);
        due("not any more", x.count(2), 0);
        due("its stake", x.stake(0, 0), 1);
        x.lend(0, 1, 1);
        due("ruined by lending all", x.count(2), 1);
        x.lend(1, 0, 1);
        due("not any more by a loan", x.count(2), 0);
        x.lend(1, 0, 1);
        due("the other one, without a seat", x.count(2), 1);
        due("doom of the other one", x.doom(1, 0, 0), 0);
    }

    // ---- Booths

    private static void boothsAndKinds() {
        about("Booths", "booth 0 takes fixed oracles alone, booth 1 oracles with tables alone (kinds 1 to 3), "
                + "booth 2 all");
        String[] takes = {"10000", "01110", "11111"};
        for (int booth = 0; booth <= 2; booth++) {
            for (int kind = 0; kind <= 4; kind++) {
                int to = booth;
                Run x = new Run();
                x.oracle(kind, 0, 10);
                if (takes[booth].charAt(kind) == '1') {
                    undone(x, "kind " + kind + ", booth " + booth, () -> x.seat(0, to), 1);
                } else {
                    refused(x, "kind " + kind + ", booth " + booth, () -> x.seat(0, to), NOT_POSSIBLE);
                }
            }
        }
    }

    private static void twoSeats() {
        about("Booths", "There are three booths with 2 seats each");
        for (int kind = 0; kind <= 2; kind++) {
            Run x = new Run();
            int booth = kind;
            for (int i = 0; i < 3; i++) {
                x.oracle(kind == 2 ? 4 : kind, 0, 0);
            }
            due("the first one", x.seat(2, booth), 1);
            due("the second one", x.seat(0, booth), 2);
            refused(x, "a third one", () -> x.seat(1, booth), LIMIT);
            due("its seat", x.oracleOf(2, 4), 0);
            due("its seat", x.oracleOf(0, 4), 1);
            due("those that have a seat", x.count(1), 2);
        }
    }

    private static void oneSeatOrNone() {
        about("Booths", "An oracle has one seat or none");
        Run x = new Run();
        x.oracle(0, 0, 10);
        refused(x, "none: no booth", () -> x.oracleOf(0, 3), NOT_FOUND);
        refused(x, "none: no seat", () -> x.oracleOf(0, 4), NOT_FOUND);
        x.seat(0, 2);
        refused(x, "a second seat in the same booth", () -> x.seat(0, 2), NOT_POSSIBLE);
        refused(x, "a second seat in another booth", () -> x.seat(0, 0), NOT_POSSIBLE);
        x.stand(0);
        due("one again", x.seat(0, 0), 1);
        due("those that have a seat", x.count(1), 1);
    }

    // ---- Settings

    private static void firstSettings() {
        about("Settings", "range; first value");
        Run x = new Run();
        int[] first = {5, 10, 50};
        int[] least = {1, 0, 0};
        int[] most = {50, 50, 100};
        for (int what = 0; what <= 2; what++) {
            int each = what;
            due("first value of " + what, x.count(20 + what), first[what]);
            due("least value of " + what, x.set(what, least[what]), first[what]);
            due("most value of " + what, x.set(what, most[what]), least[what]);
            refused(x, "below the least of " + what, () -> x.set(each, least[each] - 1), INVALID);
            refused(x, "above the most of " + what, () -> x.set(each, most[each] + 1), INVALID);
            due("value of " + what, x.count(20 + what), most[what]);
        }
    }
}
