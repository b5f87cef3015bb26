import java.util.function.ToIntFunction;

/**
 * All that can be seen of an object behind a run of calls, as a text that two moments can be compared by. The
 * questions are put to objects on which the run has been made again, so the run itself does not become longer.
 */
final class View {
    private final StringBuilder all = new StringBuilder();
    private final Run run;
    private Run asked;

    private View(Run run) {
        this.run = run;
        asked = run.again();
    }

    /** The state, the text, the history of changes, and what undo, play and other changes would lead to. */
    static String ofAll(Run run) {
        StringBuilder all = new StringBuilder(ofState(run));
        Run now = run.again();
        int states = now.count(9);
        all.append("states ").append(states).append(", length ").append(now.count(10)).append(", fault");
        for (int what = 0; what <= 2; what++) {
            all.append(' ').append(now.fault(what));
        }
        Run before = run.again();
        for (int left = states - 1; left >= 0; left--) {
            all.append("\nundo ").append(before.undo()).append(": ").append(ofState(before));
        }
        Run played = run.again();
        all.append("\nplay ").append(played.play()).append(": ").append(ofState(played));
        Run ended = run.again();
        ended.type(';');
        all.append("\n; and play ").append(ended.play()).append(": ").append(ofState(ended));
        all.append("\nchanges ").append(laterChanges(run.again()));
        return all.toString();
    }

    /** What changes of each kind would answer, and the state behind them. */
    private static String laterChanges(Run run) {
        int[] answers = {run.oracle(1, 3, 50), run.seat(run.count(0) - 1, 1), run.seat(run.count(0) - 1, 2),
            run.lend(0, 1, 1), run.branch(9, 1), run.stand(0), run.give(0, 3), run.set(0, 7), run.branch(63, 0),
            run.seat(0, 2), run.branch(9, 1)};
        StringBuilder all = new StringBuilder();
        for (int answer : answers) {
            all.append(answer).append(' ');
        }
        return all.append(ofState(run)).toString();
    }

    /** What a change records: neither the text nor the history of changes. */
    static String ofState(Run run) {
        return new View(run).state();
    }

    private String state() {
        for (int i = 0; i <= 22; i++) {
            int what = i;
            if (what != 9 && what != 10) {
                ask(x -> x.count(what));
            }
        }
        int oracles = run.again().count(0);
        for (int oracle = 0; oracle < oracles; oracle++) {
            askOfOracle(oracle);
        }
        for (int i = 0; i < 3 * 8; i++) {
            int each = i;
            ask(x -> x.loanOf(each / 3, each % 3));
        }
        for (int i = 0; i < 64; i++) {
            int address = i;
            ask(x -> x.odds(address));
        }
        for (int i = 0; i < oracles; i++) {
            int place = i;
            ask(x -> x.rich(place));
        }
        return all.toString();
    }

    private void askOfOracle(int oracle) {
        for (int i = 0; i <= 10; i++) {
            int what = i;
            ask(x -> x.oracleOf(oracle, what));
        }
        ask(x -> x.share(oracle));
        for (int i = 0; i < 32; i++) {
            int index = i;
            ask(x -> x.counter(oracle, index));
        }
        for (int i = 0; i < 64; i++) {
            int address = i;
            ask(x -> x.aliases(oracle, address));
            ask(x -> x.says(oracle, address));
            ask(x -> x.stake(oracle, address));
        }
    }

    private void ask(ToIntFunction<BranchBets> question) {
        if (asked.callsLeft() == 0) {
            asked = run.again();
        }
        all.append(asked.call(question)).append(' ');
    }
}
