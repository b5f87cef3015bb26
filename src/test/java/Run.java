import java.util.ArrayList;
import java.util.List;
import java.util.function.ToIntFunction;

/**
 * A run of calls on a new object. It keeps the calls, so that the same run can be had again, and refuses to make
 * more of them than the document allows: what an object answers behind its 512th call is free.
 */
final class Run {
    static final int MOST_CALLS = 512;

    private final BranchBets object = new BranchBets();
    private final List<ToIntFunction<BranchBets>> calls = new ArrayList<>();
    private final List<Integer> answers = new ArrayList<>();

    /** A new object on which the same calls have been made. */
    Run again() {
        Run other = new Run();
        for (int i = 0; i < calls.size(); i++) {
            if (other.call(calls.get(i)) != answers.get(i)) {
                throw new AssertionError("the same calls do not give the same answers: call " + i);
            }
        }
        return other;
    }

    int callsLeft() {
        return MOST_CALLS - calls.size();
    }

    int call(ToIntFunction<BranchBets> call) {
        if (callsLeft() == 0) {
            throw new AssertionError("a test makes more calls on one object than the document allows");
        }
        int answer = call.applyAsInt(object);
        calls.add(call);
        answers.add(answer);
        return answer;
    }

    int set(int what, int value) {
        return call(x -> x.set(what, value));
    }

    int oracle(int kind, int number, int purse) {
        return call(x -> x.oracle(kind, number, purse));
    }

    int seat(int oracle, int booth) {
        return call(x -> x.seat(oracle, booth));
    }

    int stand(int oracle) {
        return call(x -> x.stand(oracle));
    }

    int give(int oracle, int coins) {
        return call(x -> x.give(oracle, coins));
    }

    int lend(int creditor, int debtor, int coins) {
        return call(x -> x.lend(creditor, debtor, coins));
    }

    int branch(int address, int taken) {
        return call(x -> x.branch(address, taken));
    }

    int oracleOf(int oracle, int what) {
        return call(x -> x.oracleOf(oracle, what));
    }

    int counter(int oracle, int index) {
        return call(x -> x.counter(oracle, index));
    }

    int loanOf(int loan, int what) {
        return call(x -> x.loanOf(loan, what));
    }

    int aliases(int oracle, int address) {
        return call(x -> x.aliases(oracle, address));
    }

    int share(int oracle) {
        return call(x -> x.share(oracle));
    }

    int rich(int place) {
        return call(x -> x.rich(place));
    }

    int says(int oracle, int address) {
        return call(x -> x.says(oracle, address));
    }

    int stake(int oracle, int address) {
        return call(x -> x.stake(oracle, address));
    }

    int odds(int address) {
        return call(x -> x.odds(address));
    }

    int gain(int oracle, int address, int taken) {
        return call(x -> x.gain(oracle, address, taken));
    }

    int doom(int oracle, int address, int taken) {
        return call(x -> x.doom(oracle, address, taken));
    }

    int bestRow(int oracle, int address, int times, int what) {
        return call(x -> x.bestRow(oracle, address, times, what));
    }

    int count(int what) {
        return call(x -> x.count(what));
    }

    int undo() {
        return call(BranchBets::undo);
    }

    int type(int character) {
        return call(x -> x.type(character));
    }

    int clearText() {
        return call(BranchBets::clearText);
    }

    int fault(int what) {
        return call(x -> x.fault(what));
    }

    int play() {
        return call(BranchBets::play);
    }
}
