import java.util.ArrayList;
import java.util.List;

/** Runs of calls on new objects, each answer compared with the one of the model. The runs are always the same. */
public final class ModelTest {
    private static final int RUNS = 1500;
    private static final int MOST_CALLS_OF_A_STEP = 20;
    private static final String[] WORDS = {"take", "skip", "flip", "loop"};
    private static final int[] ODD = {-1, -2, 6, 7, 64, 100000, Integer.MIN_VALUE, Integer.MAX_VALUE};
    private static final Checks CHECKS = new Checks();

    private long seed;
    private final Run program = new Run();
    private final Model model = new Model();
    private final List<String> calls = new ArrayList<>();
    private boolean same = true;

    private ModelTest(int run) {
        seed = 0x9E3779B97F4A7C15L * (run + 1);
    }

    public static void main(String[] args) {
        for (int run = 0; run < RUNS; run++) {
            CHECKS.about("run " + run);
            new ModelTest(run).runAll(run);
        }
        CHECKS.end();
    }

    private void runAll(int run) {
        // Few coins and large units in some runs, so that ruin is as usual as wealth.
        int purse = new int[] {20, 100, 400, 9999}[run % 4];
        int oracles = pick(7);
        for (int i = 0; i < oracles; i++) {
            oracle(purse);
        }
        for (int i = 0; i < oracles; i++) {
            seat();
        }
        while (same && program.callsLeft() >= MOST_CALLS_OF_A_STEP) {
            call(purse);
        }
        CHECKS.that("differs from the model: " + calls, same);
    }

    private int pick(int bound) {
        seed = seed * 6364136223846793005L + 1442695040888963407L;
        return (int) ((seed >>> 33) % bound);
    }

    /** Mostly 0 to most, now and then a number far off. */
    private int number(int most) {
        int way = pick(40);
        if (way == 0) {
            return ODD[pick(ODD.length)];
        }
        return way == 1 ? most + 1 : pick(most + 1);
    }

    private void compare(String call, int got, int want) {
        calls.add(call + " = " + got);
        if (got != want) {
            same = false;
            calls.add("due is " + want);
        }
    }

    private void oracle(int purse) {
        int kind = number(4);
        int number = number(kind == 0 ? 1 : kind == 4 ? 0 : 5);
        int coins = pick(8) == 0 ? 0 : number(purse);
        compare("oracle(" + kind + ", " + number + ", " + coins + ")",
                program.oracle(kind, number, coins), model.oracle(kind, number, coins));
    }

    private void seat() {
        int oracle = number(5);
        int booth = number(2);
        compare("seat(" + oracle + ", " + booth + ")", program.seat(oracle, booth), model.seat(oracle, booth));
    }

    private void call(int purse) {
        switch (pick(32)) {
            case 0 -> set();
            case 1 -> oracle(purse);
            case 2, 3 -> seat();
            case 4 -> stand();
            case 5 -> give(purse);
            case 6, 7 -> lend(purse);
            case 8, 9, 10, 11, 12, 13 -> branch();
            case 14, 15, 16, 17 -> ofOracle();
            case 18 -> ofLoan();
            case 19, 20 -> ofAddress();
            case 21 -> gain();
            case 22 -> doom();
            case 23 -> bestRow();
            case 24, 25 -> count();
            case 26 -> undo();
            case 27, 28 -> text();
            case 29 -> character();
            case 30 -> fault();
            default -> play();
        }
    }

    private void set() {
        int what = number(2);
        int value = number(what == 2 ? 100 : 50);
        compare("set(" + what + ", " + value + ")", program.set(what, value), model.set(what, value));
    }

    private void stand() {
        int oracle = number(5);
        compare("stand(" + oracle + ")", program.stand(oracle), model.stand(oracle));
    }

    private void give(int purse) {
        int oracle = number(5);
        int coins = number(purse);
        compare("give(" + oracle + ", " + coins + ")", program.give(oracle, coins), model.give(oracle, coins));
    }

    private void lend(int purse) {
        int creditor = number(5);
        int debtor = number(5);
        int coins = number(pick(2) == 0 ? 10 : purse);
        compare("lend(" + creditor + ", " + debtor + ", " + coins + ")",
                program.lend(creditor, debtor, coins), model.lend(creditor, debtor, coins));
    }

    private int address() {
        return pick(2) == 0 ? number(3) : number(63);
    }

    private void branch() {
        int address = address();
        int taken = number(1);
        compare("branch(" + address + ", " + taken + ")",
                program.branch(address, taken), model.branch(address, taken));
    }

    private void ofOracle() {
        int oracle = number(5);
        int what = number(10);
        compare("oracleOf(" + oracle + ", " + what + ")",
                program.oracleOf(oracle, what), model.oracleOf(oracle, what));
        int index = number(31);
        compare("counter(" + oracle + ", " + index + ")",
                program.counter(oracle, index), model.counter(oracle, index));
        compare("share(" + oracle + ")", program.share(oracle), model.share(oracle));
    }

    private void ofLoan() {
        int loan = number(7);
        int what = number(2);
        compare("loanOf(" + loan + ", " + what + ")", program.loanOf(loan, what), model.loanOf(loan, what));
        int place = number(5);
        compare("rich(" + place + ")", program.rich(place), model.rich(place));
    }

    private void ofAddress() {
        int oracle = number(5);
        int address = address();
        String both = "(" + oracle + ", " + address + ")";
        compare("aliases" + both, program.aliases(oracle, address), model.aliases(oracle, address));
        compare("says" + both, program.says(oracle, address), model.says(oracle, address));
        compare("stake" + both, program.stake(oracle, address), model.stake(oracle, address));
        compare("odds(" + address + ")", program.odds(address), model.odds(address));
    }

    private void gain() {
        int oracle = number(5);
        int address = address();
        int taken = number(1);
        compare("gain(" + oracle + ", " + address + ", " + taken + ")",
                program.gain(oracle, address, taken), model.gain(oracle, address, taken));
    }

    private void doom() {
        int oracle = number(5);
        int address = address();
        int taken = number(1);
        compare("doom(" + oracle + ", " + address + ", " + taken + ")",
                program.doom(oracle, address, taken), model.doom(oracle, address, taken));
    }

    private void bestRow() {
        int oracle = number(5);
        int address = address();
        int times = number(5);
        int what = number(1);
        compare("bestRow(" + oracle + ", " + address + ", " + times + ", " + what + ")",
                program.bestRow(oracle, address, times, what), model.bestRow(oracle, address, times, what));
    }

    private void count() {
        int what = pick(4) == 0 ? 19 + pick(5) : number(10);
        compare("count(" + what + ")", program.count(what), model.count(what));
    }

    private void undo() {
        compare("undo()", program.undo(), model.undo());
    }

    /** Types a good or nearly good order at once; each character is a call. */
    private void text() {
        if (pick(3) == 0) {
            clearText();
        }
        String order = pick(6) == 0 ? "cut " + pick(60) + ";"
                : WORDS[pick(4)] + " " + pick(70) + " " + (pick(3) == 0 ? pick(50) : pick(6)) + ";";
        StringBuilder text = new StringBuilder(order);
        if (pick(4) == 0) {
            int at = pick(text.length());
            switch (pick(3)) {
                case 0 -> text.deleteCharAt(at);
                case 1 -> text.insert(at, " 0;at~".charAt(pick(6)));
                default -> text.setLength(at);
            }
        }
        for (int i = 0; i < text.length(); i++) {
            type(text.charAt(i));
        }
        fault();
    }

    private void clearText() {
        compare("clearText()", program.clearText(), model.clearText());
    }

    private void type(int character) {
        compare("type(" + character + ")", program.type(character), model.type(character));
    }

    private void character() {
        if (pick(3) == 0) {
            type(30 + pick(99));
        } else {
            clearText();
        }
    }

    private void fault() {
        for (int what = 0; what <= 2; what++) {
            compare("fault(" + what + ")", program.fault(what), model.fault(what));
        }
        compare("fault", program.fault(3), model.fault(3));
    }

    private void play() {
        compare("play()", program.play(), model.play());
    }
}
