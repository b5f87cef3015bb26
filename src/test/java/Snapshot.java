/** All that can be seen of an object, as a text that two moments can be compared by. */
final class Snapshot {
    private Snapshot() {
    }

    static String of(BranchBets x) {
        StringBuilder all = new StringBuilder(ofState(x));
        for (int what = 9; what <= 10; what++) {
            all.append(x.count(what)).append(' ');
        }
        for (int what = 0; what <= 2; what++) {
            all.append(x.fault(what)).append(' ');
        }
        return all.toString();
    }

    /** What a change records: neither the text nor the history of changes itself. */
    static String ofState(BranchBets x) {
        StringBuilder all = new StringBuilder();
        for (int what = 0; what <= 22; what++) {
            if (what != 9 && what != 10) {
                all.append(x.count(what)).append(' ');
            }
        }
        for (int oracle = 0; oracle < x.count(0); oracle++) {
            addOracle(all, x, oracle);
        }
        for (int loan = 0; loan < 8; loan++) {
            for (int what = 0; what <= 2; what++) {
                all.append(x.loanOf(loan, what)).append(' ');
            }
        }
        for (int i = 0; i < 64; i++) {
            all.append(x.odds(i)).append(' ').append(x.rich(i)).append(' ');
        }
        return all.toString();
    }

    private static void addOracle(StringBuilder all, BranchBets x, int oracle) {
        for (int what = 0; what <= 10; what++) {
            all.append(x.oracleOf(oracle, what)).append(' ');
        }
        all.append(x.share(oracle)).append(' ');
        for (int i = 0; i < 64; i++) {
            all.append(x.counter(oracle, i)).append(' ').append(x.aliases(oracle, i)).append(' ');
            all.append(x.says(oracle, i)).append(' ').append(x.stake(oracle, i)).append(' ');
        }
    }
}
