/** Branch oracles who bet against each other; the document ../shared/DOC.md says what each call answers. */
public final class BranchBets {
    public static final int INVALID_ARGUMENT = -1000001;
    public static final int NOT_POSSIBLE = -1000002;
    public static final int LIMIT_REACHED = -1000003;
    public static final int NOT_FOUND = -1000004;

    private static final int MOST_ORACLES = 6;
    private static final int MOST_LOANS = 8;
    private static final int MOST_STATES = 4;
    private static final int MOST_CHARACTERS = 80;
    private static final int MOST_COUNTERS = 32;
    private static final int MOST_TABLE_NUMBER = 5;
    private static final int MOST_COINS_GIVEN = 9999;
    private static final int MOST_COINS_BY_GIFT = 100000;
    private static final int MOST_DOOM_BRANCHES = 100;
    private static final int MOST_ROW = 5;
    private static final int MOST_TIMES = 40;
    private static final int ADDRESSES = 64;
    private static final int BOOTHS = 3;
    private static final int SEATS = 2;
    private static final int NONE = -1;

    private static final int KIND_FIXED = 0;
    private static final int KIND_BY_ADDRESS = 1;
    private static final int KIND_BY_PAST = 2;
    private static final int KIND_MIXED = 3;
    private static final int KIND_CONTRARY = 4;

    private static final int BOOTH_FIXED = 0;
    private static final int BOOTH_TABLES = 1;

    private static final int SETTINGS = 3;
    private static final int SETTING_UNIT = 0;
    private static final int SETTING_CUT = 1;
    private static final int SETTING_CREDITORS = 2;
    private static final int[] SETTING_FIRST = {5, 10, 50};
    private static final int[] SETTING_LEAST = {1, 0, 0};
    private static final int[] SETTING_MOST = {50, 50, 100};

    private static final int WORD_TAKE = 0;
    private static final int WORD_SKIP = 1;
    private static final int WORD_FLIP = 2;
    private static final int WORD_LOOP = 3;
    private static final int WORD_CUT = 4;

    private static final int REASON_FORM = 1;
    private static final int REASON_RANGE = 2;

    private final State now;
    // What would be is tried on this one, so that such calls make no object and leave the present alone.
    private final State trial;
    private final Past past;
    private final Text text;

    public BranchBets() {
        now = new State();
        trial = new State();
        past = new Past();
        text = new Text();
    }

    // ---- settings, oracles, seats

    public int set(int what, int value) {
        if (!isWithin(what, 0, SETTINGS - 1) || !isWithin(value, SETTING_LEAST[what], SETTING_MOST[what])) {
            return INVALID_ARGUMENT;
        }
        past.keep(now);
        int before = now.settings[what];
        now.settings[what] = value;
        return before;
    }

    public int oracle(int kind, int number, int purse) {
        if (!isWithin(kind, KIND_FIXED, KIND_CONTRARY) || !isWithin(number, 0, mostNumberOf(kind))
                || !isWithin(purse, 0, MOST_COINS_GIVEN)) {
            return INVALID_ARGUMENT;
        }
        if (now.oracleCount >= MOST_ORACLES) {
            return LIMIT_REACHED;
        }
        past.keep(now);
        int added = now.oracleCount;
        now.oracles[added].begin(kind, number, purse);
        now.oracleCount = added + 1;
        return added;
    }

    public int seat(int oracle, int booth) {
        if (!isOracle(oracle) || !isWithin(booth, 0, BOOTHS - 1)) {
            return INVALID_ARGUMENT;
        }
        Oracle guest = now.oracles[oracle];
        if (guest.hasSeat() || !takes(booth, guest)) {
            return NOT_POSSIBLE;
        }
        int free = now.lowestFreeSeat(booth);
        if (free == NONE) {
            return LIMIT_REACHED;
        }
        past.keep(now);
        guest.booth = booth;
        guest.place = free;
        return now.sittersOf(booth);
    }

    public int stand(int oracle) {
        if (!isOracle(oracle)) {
            return INVALID_ARGUMENT;
        }
        Oracle guest = now.oracles[oracle];
        if (!guest.hasSeat()) {
            return NOT_POSSIBLE;
        }
        past.keep(now);
        int booth = guest.booth;
        guest.booth = NONE;
        guest.place = NONE;
        return booth;
    }

    public int give(int oracle, int coins) {
        if (!isOracle(oracle) || !isWithin(coins, 1, MOST_COINS_GIVEN)) {
            return INVALID_ARGUMENT;
        }
        Oracle guest = now.oracles[oracle];
        if (guest.purse + coins > MOST_COINS_BY_GIFT) {
            return LIMIT_REACHED;
        }
        past.keep(now);
        guest.purse += coins;
        return guest.purse;
    }

    public int lend(int creditor, int debtor, int coins) {
        if (!isOracle(creditor) || !isOracle(debtor) || creditor == debtor
                || !isWithin(coins, 1, MOST_COINS_GIVEN)) {
            return INVALID_ARGUMENT;
        }
        if (now.oracles[creditor].purse < coins) {
            return NOT_POSSIBLE;
        }
        if (now.loanCount >= MOST_LOANS) {
            return LIMIT_REACHED;
        }
        past.keep(now);
        return now.addLoan(creditor, debtor, coins);
    }

    public int branch(int address, int taken) {
        if (!isAddress(address) || !isWithin(taken, 0, 1)) {
            return INVALID_ARGUMENT;
        }
        past.keep(now);
        return now.runBranch(address, taken);
    }

    // ---- what there is

    public int oracleOf(int oracle, int what) {
        if (!isOracle(oracle) || !isWithin(what, 0, 10)) {
            return INVALID_ARGUMENT;
        }
        Oracle asked = now.oracles[oracle];
        switch (what) {
            case 0:
                return asked.kind;
            case 1:
                return asked.number;
            case 2:
                return asked.purse;
            case 3:
                return asked.hasSeat() ? asked.booth : NOT_FOUND;
            case 4:
                return asked.hasSeat() ? asked.place : NOT_FOUND;
            case 5:
                return asked.right;
            case 6:
                return asked.wrong;
            case 7:
                return asked.record;
            case 8:
                return asked.ruins;
            case 9:
                return now.debtsOf(oracle);
            default:
                return now.claimsOf(oracle);
        }
    }

    public int counter(int oracle, int index) {
        if (!isOracle(oracle) || index < 0) {
            return INVALID_ARGUMENT;
        }
        Oracle asked = now.oracles[oracle];
        return index < asked.tableSize() ? asked.table[index] : NOT_FOUND;
    }

    public int loanOf(int loan, int what) {
        if (!isWithin(loan, 0, now.loanCount - 1) || !isWithin(what, 0, 2)) {
            return INVALID_ARGUMENT;
        }
        Loan asked = now.loans[loan];
        switch (what) {
            case 0:
                return asked.creditor;
            case 1:
                return asked.debtor;
            default:
                return asked.owed;
        }
    }

    public int aliases(int oracle, int address) {
        if (!isOracle(oracle) || !isAddress(address)) {
            return INVALID_ARGUMENT;
        }
        Oracle asked = now.oracles[oracle];
        if (!asked.hasTable()) {
            return NOT_FOUND;
        }
        int slot = asked.slotOf(address, now.history);
        int found = 0;
        for (int other = 0; other < ADDRESSES; other++) {
            if (other != address && now.hasSeen(other) && asked.slotOf(other, now.history) == slot) {
                found++;
            }
        }
        return found;
    }

    public int share(int oracle) {
        if (!isOracle(oracle)) {
            return INVALID_ARGUMENT;
        }
        Oracle asked = now.oracles[oracle];
        int times = asked.right + asked.wrong;
        return times > 0 ? bitsOfQuotient(asked.right, times) : NOT_FOUND;
    }

    public int rich(int place) {
        if (place < 0) {
            return INVALID_ARGUMENT;
        }
        for (int oracle = 0; oracle < now.oracleCount; oracle++) {
            if (now.richerThan(oracle) == place) {
                return oracle;
            }
        }
        return NOT_FOUND;
    }

    // ---- what would be

    public int says(int oracle, int address) {
        if (!isOracle(oracle) || !isAddress(address)) {
            return INVALID_ARGUMENT;
        }
        now.foretell(address);
        return now.oracles[oracle].said;
    }

    public int stake(int oracle, int address) {
        if (!isOracle(oracle) || !isAddress(address)) {
            return INVALID_ARGUMENT;
        }
        now.foretell(address);
        return now.oracles[oracle].staked;
    }

    public int odds(int address) {
        if (!isAddress(address)) {
            return INVALID_ARGUMENT;
        }
        now.foretell(address);
        int onTaken = now.stakesOn(1);
        int all = onTaken + now.stakesOn(0);
        return all > 0 ? bitsOfQuotient(onTaken, all) : NOT_FOUND;
    }

    public int gain(int oracle, int address, int taken) {
        if (!isOracle(oracle) || !isAddress(address) || !isWithin(taken, 0, 1)) {
            return INVALID_ARGUMENT;
        }
        trial.copyFrom(now);
        trial.runBranch(address, taken);
        return trial.oracles[oracle].purse - now.oracles[oracle].purse;
    }

    public int doom(int oracle, int address, int taken) {
        if (!isOracle(oracle) || !isAddress(address) || !isWithin(taken, 0, 1)) {
            return INVALID_ARGUMENT;
        }
        trial.copyFrom(now);
        Oracle asked = trial.oracles[oracle];
        for (int branches = 0; branches < MOST_DOOM_BRANCHES; branches++) {
            if (asked.isRuined()) {
                return branches;
            }
            trial.runBranch(address, taken);
        }
        return asked.isRuined() ? MOST_DOOM_BRANCHES : NOT_FOUND;
    }

    public int bestRow(int oracle, int address, int times, int what) {
        if (!isOracle(oracle) || !isAddress(address) || !isWithin(times, 1, MOST_ROW) || !isWithin(what, 0, 1)) {
            return INVALID_ARGUMENT;
        }
        int best = 0;
        int most = NONE;
        for (int row = 0; row < 1 << times; row++) {
            int purse = purseBehind(row, oracle, address, times);
            if (purse > most) {
                most = purse;
                best = row;
            }
        }
        return what == 0 ? best : most;
    }

    public int count(int what) {
        if (isWithin(what, 20, 20 + SETTINGS - 1)) {
            return now.settings[what - 20];
        }
        switch (what) {
            case 0:
                return now.oracleCount;
            case 1:
                return now.seatedOracles();
            case 2:
                return now.ruinedOracles();
            case 3:
                return now.houseCoins;
            case 4:
                return now.allCoins();
            case 5:
                return now.history;
            case 6:
                return now.branches;
            case 7:
                return now.bets;
            case 8:
                return now.loanCount;
            case 9:
                return past.size;
            case 10:
                return text.length;
            default:
                return INVALID_ARGUMENT;
        }
    }

    public int undo() {
        if (past.size <= 0) {
            return NOT_POSSIBLE;
        }
        past.restoreInto(now);
        return past.size;
    }

    // ---- texts

    public int type(int character) {
        if (!isWithin(character, 32, 126)) {
            return INVALID_ARGUMENT;
        }
        if (text.length >= MOST_CHARACTERS) {
            return LIMIT_REACHED;
        }
        text.append((char) character);
        return text.length;
    }

    public int clearText() {
        int before = text.length;
        text.length = 0;
        return before;
    }

    public int fault(int what) {
        if (!isWithin(what, 0, 2)) {
            return INVALID_ARGUMENT;
        }
        if (!text.hasFault()) {
            return NOT_FOUND;
        }
        switch (what) {
            case 0:
                return text.start;
            case 1:
                return text.reason;
            default:
                return text.cause;
        }
    }

    public int play() {
        if (text.hasFault()) {
            return NOT_POSSIBLE;
        }
        past.keep(now);
        int branches = 0;
        int at = 0;
        for (int orders = 0; orders < MOST_CHARACTERS && at < text.length; orders++) {
            text.readOrder(at);
            branches += doOrderRead();
            at = text.end;
        }
        return branches;
    }

    // ---- helpers of the calls

    private static boolean isWithin(int value, int least, int most) {
        return value >= least && value <= most;
    }

    private static boolean isAddress(int address) {
        return isWithin(address, 0, ADDRESSES - 1);
    }

    private boolean isOracle(int oracle) {
        return isWithin(oracle, 0, now.oracleCount - 1);
    }

    private static int mostNumberOf(int kind) {
        if (kind == KIND_FIXED) {
            return 1;
        }
        return kind == KIND_CONTRARY ? 0 : MOST_TABLE_NUMBER;
    }

    private static boolean takes(int booth, Oracle guest) {
        if (booth == BOOTH_FIXED) {
            return guest.kind == KIND_FIXED;
        }
        return booth != BOOTH_TABLES || guest.hasTable();
    }

    // The library of floats is out of bounds, so the bits are read off the value: doubling it until it is
    // 1 or more is exact and tells the exponent. part is at most whole, so the value is never above 1.
    private static int bitsOfQuotient(int part, int whole) {
        if (part <= 0 || whole <= 0) {
            return 0;
        }
        float value = (float) part / (float) whole;
        int exponent = 127;
        for (int i = 0; i < 126 && value < 1f; i++) {
            value = value * 2f;
            exponent--;
        }
        return (exponent << 23) + ((int) (value * 8388608f) - 8388608);
    }

    private int purseBehind(int row, int oracle, int address, int times) {
        trial.copyFrom(now);
        for (int bit = times - 1; bit >= 0; bit--) {
            trial.runBranch(address, (row >> bit) & 1);
        }
        return trial.oracles[oracle].purse;
    }

    private int doOrderRead() {
        if (text.word == WORD_CUT) {
            now.settings[SETTING_CUT] = text.numbers[0];
            return 0;
        }
        int address = text.numbers[0];
        int times = text.numbers[1];
        for (int i = 0; i < times; i++) {
            now.runBranch(address, wayOf(text.word, i, times));
        }
        return times;
    }

    private static int wayOf(int word, int turn, int times) {
        switch (word) {
            case WORD_TAKE:
                return 1;
            case WORD_FLIP:
                return 1 - (turn & 1);
            case WORD_LOOP:
                return turn < times - 1 ? 1 : 0;
            default:
                return 0;
        }
    }

    /** One oracle; said and staked are its part in the branch that was looked at last, no part of the state. */
    private static final class Oracle {
        int kind;
        int number;
        int purse;
        int booth;
        int place;
        int right;
        int wrong;
        int record;
        int ruins;
        int said;
        int staked;
        final int[] table;

        Oracle() {
            table = new int[MOST_COUNTERS];
        }

        // Every field is set: the object may have served for an oracle that an undo has removed.
        void begin(int newKind, int newNumber, int newPurse) {
            kind = newKind;
            number = newNumber;
            purse = newPurse;
            booth = NONE;
            place = NONE;
            right = 0;
            wrong = 0;
            record = 0;
            ruins = 0;
            for (int i = 0; i < table.length; i++) {
                table[i] = 1;
            }
        }

        void copyFrom(Oracle other) {
            kind = other.kind;
            number = other.number;
            purse = other.purse;
            booth = other.booth;
            place = other.place;
            right = other.right;
            wrong = other.wrong;
            record = other.record;
            ruins = other.ruins;
            System.arraycopy(other.table, 0, table, 0, MOST_COUNTERS);
        }

        boolean hasSeat() {
            return booth != NONE;
        }

        boolean isRuined() {
            return purse == 0;
        }

        boolean takesPart() {
            return hasSeat() && !isRuined();
        }

        boolean hasTable() {
            return kind >= KIND_BY_ADDRESS && kind <= KIND_MIXED;
        }

        int tableSize() {
            return hasTable() ? 1 << number : 0;
        }

        // For oracles with tables alone. A size is a power of 2, so its modulo is a mask.
        int slotOf(int address, int history) {
            int mask = (1 << number) - 1;
            if (kind == KIND_BY_ADDRESS) {
                return address & mask;
            }
            return (kind == KIND_BY_PAST ? history : address ^ history) & mask;
        }

        // What an oracle says that does not look at the others.
        int wordOfItsOwn(int address, int history) {
            if (!hasTable()) {
                return number;
            }
            return table[slotOf(address, history)] >= 2 ? 1 : 0;
        }

        int stakeNow(int unit, int address, int history) {
            if (!takesPart()) {
                return 0;
            }
            boolean sure = false;
            if (hasTable()) {
                int state = table[slotOf(address, history)];
                sure = state == 0 || state == 3;
            }
            return Math.min(purse, sure ? 2 * unit : unit);
        }

        void learn(int address, int taken, int history) {
            int slot = slotOf(address, history);
            table[slot] = taken == 1 ? Math.min(3, table[slot] + 1) : Math.max(0, table[slot] - 1);
        }

        void note(boolean wasRight) {
            if (wasRight) {
                right++;
            } else {
                wrong++;
            }
            record = (2 * record + (wasRight ? 1 : 0)) & 65535;
            if (isRuined()) {
                ruins++;
            }
        }
    }

    /** What one oracle owes to another one. */
    private static final class Loan {
        int creditor;
        int debtor;
        int owed;

        void copyFrom(Loan other) {
            creditor = other.creditor;
            debtor = other.debtor;
            owed = other.owed;
        }
    }

    /** All that a change records. */
    private static final class State {
        final Oracle[] oracles;
        final Loan[] loans;
        final int[] settings;
        int oracleCount;
        int loanCount;
        int houseCoins;
        int history;
        int branches;
        int bets;
        long seenAddresses;

        State() {
            oracles = new Oracle[MOST_ORACLES];
            for (int i = 0; i < MOST_ORACLES; i++) {
                oracles[i] = new Oracle();
            }
            loans = new Loan[MOST_LOANS];
            for (int i = 0; i < MOST_LOANS; i++) {
                loans[i] = new Loan();
            }
            settings = new int[SETTINGS];
            for (int i = 0; i < SETTINGS; i++) {
                settings[i] = SETTING_FIRST[i];
            }
        }

        void copyFrom(State other) {
            oracleCount = other.oracleCount;
            for (int i = 0; i < oracleCount; i++) {
                oracles[i].copyFrom(other.oracles[i]);
            }
            loanCount = other.loanCount;
            for (int i = 0; i < loanCount; i++) {
                loans[i].copyFrom(other.loans[i]);
            }
            System.arraycopy(other.settings, 0, settings, 0, SETTINGS);
            houseCoins = other.houseCoins;
            history = other.history;
            branches = other.branches;
            bets = other.bets;
            seenAddresses = other.seenAddresses;
        }

        int sittersOf(int booth) {
            int found = 0;
            for (int i = 0; i < oracleCount; i++) {
                if (oracles[i].booth == booth) {
                    found++;
                }
            }
            return found;
        }

        int lowestFreeSeat(int booth) {
            for (int place = 0; place < SEATS; place++) {
                if (!isTaken(booth, place)) {
                    return place;
                }
            }
            return NONE;
        }

        boolean isTaken(int booth, int place) {
            for (int i = 0; i < oracleCount; i++) {
                if (oracles[i].booth == booth && oracles[i].place == place) {
                    return true;
                }
            }
            return false;
        }

        int seatedOracles() {
            int found = 0;
            for (int i = 0; i < oracleCount; i++) {
                if (oracles[i].hasSeat()) {
                    found++;
                }
            }
            return found;
        }

        int ruinedOracles() {
            int found = 0;
            for (int i = 0; i < oracleCount; i++) {
                if (oracles[i].isRuined()) {
                    found++;
                }
            }
            return found;
        }

        int allCoins() {
            int coins = houseCoins;
            for (int i = 0; i < oracleCount; i++) {
                coins += oracles[i].purse;
            }
            return coins;
        }

        // How many oracles stand ahead of this one by their coins, then by their numbers.
        int richerThan(int oracle) {
            int purse = oracles[oracle].purse;
            int found = 0;
            for (int i = 0; i < oracleCount; i++) {
                if (oracles[i].purse > purse || oracles[i].purse == purse && i < oracle) {
                    found++;
                }
            }
            return found;
        }

        int addLoan(int creditor, int debtor, int coins) {
            oracles[creditor].purse -= coins;
            oracles[debtor].purse += coins;
            int added = loanCount;
            loans[added].creditor = creditor;
            loans[added].debtor = debtor;
            loans[added].owed = coins;
            loanCount = added + 1;
            return added;
        }

        int debtsOf(int oracle) {
            int coins = 0;
            for (int i = 0; i < loanCount; i++) {
                if (loans[i].debtor == oracle) {
                    coins += loans[i].owed;
                }
            }
            return coins;
        }

        int claimsOf(int oracle) {
            int coins = 0;
            for (int i = 0; i < loanCount; i++) {
                if (loans[i].creditor == oracle) {
                    coins += loans[i].owed;
                }
            }
            return coins;
        }

        boolean hasSeen(int address) {
            return ((seenAddresses >>> address) & 1L) == 1L;
        }

        // Contrary oracles come last: what they say hangs on what all the others say.
        void foretell(int address) {
            int coinsOnTaken = 0;
            int coinsOnNot = 0;
            for (int i = 0; i < oracleCount; i++) {
                Oracle each = oracles[i];
                each.staked = each.stakeNow(settings[SETTING_UNIT], address, history);
                if (each.kind == KIND_CONTRARY) {
                    continue;
                }
                each.said = each.wordOfItsOwn(address, history);
                if (each.takesPart() && each.said == 1) {
                    coinsOnTaken += each.purse;
                } else if (each.takesPart()) {
                    coinsOnNot += each.purse;
                }
            }
            for (int i = 0; i < oracleCount; i++) {
                if (oracles[i].kind == KIND_CONTRARY) {
                    oracles[i].said = coinsOnNot > coinsOnTaken ? 1 : 0;
                }
            }
        }

        int stakesOn(int word) {
            int coins = 0;
            for (int i = 0; i < oracleCount; i++) {
                if (oracles[i].said == word) {
                    coins += oracles[i].staked;
                }
            }
            return coins;
        }

        int runBranch(int address, int taken) {
            foretell(address);
            int paid = settleBets(taken);
            keepRecords(taken);
            learnFrom(address, taken);
            return paid;
        }

        // A stake is never 0 for one who takes part, so sums of stakes tell whether there is a bet.
        int settleBets(int taken) {
            int paid = stakesOn(1 - taken);
            int stakesOfRight = stakesOn(taken);
            if (paid <= 0 || stakesOfRight <= 0) {
                return 0;
            }
            bets++;
            int left = paid - paid * settings[SETTING_CUT] / 100;
            int shared = 0;
            for (int i = 0; i < oracleCount; i++) {
                Oracle each = oracles[i];
                if (each.said == taken) {
                    int got = left * each.staked / stakesOfRight;
                    each.purse += got;
                    shared += got;
                    payCreditors(i, got);
                } else {
                    each.purse -= each.staked;
                }
            }
            houseCoins += paid - shared;
            dropLoansPaidBack();
            return paid;
        }

        void payCreditors(int debtor, int got) {
            int rest = got * settings[SETTING_CREDITORS] / 100;
            for (int i = 0; i < loanCount && rest > 0; i++) {
                Loan loan = loans[i];
                if (loan.debtor == debtor) {
                    int coins = Math.min(rest, loan.owed);
                    rest -= coins;
                    loan.owed -= coins;
                    oracles[debtor].purse -= coins;
                    oracles[loan.creditor].purse += coins;
                }
            }
        }

        void dropLoansPaidBack() {
            int kept = 0;
            for (int i = 0; i < loanCount; i++) {
                if (loans[i].owed > 0) {
                    loans[kept].copyFrom(loans[i]);
                    kept++;
                }
            }
            loanCount = kept;
        }

        // The stakes tell who took part: by now a purse may have been emptied, or filled by a debtor.
        void keepRecords(int taken) {
            for (int i = 0; i < oracleCount; i++) {
                if (oracles[i].staked > 0) {
                    oracles[i].note(oracles[i].said == taken);
                }
            }
        }

        void learnFrom(int address, int taken) {
            for (int i = 0; i < oracleCount; i++) {
                if (oracles[i].hasTable()) {
                    oracles[i].learn(address, taken, history);
                }
            }
            history = (2 * history + taken) & 255;
            branches++;
            seenAddresses |= 1L << address;
        }
    }

    /** The history of changes: a ring, so that the oldest state makes room for the latest one. */
    private static final class Past {
        final State[] states;
        int first;
        int size;

        Past() {
            states = new State[MOST_STATES];
            for (int i = 0; i < MOST_STATES; i++) {
                states[i] = new State();
            }
        }

        void keep(State state) {
            states[(first + size) % MOST_STATES].copyFrom(state);
            if (size < MOST_STATES) {
                size++;
            } else {
                first = (first + 1) % MOST_STATES;
            }
        }

        void restoreInto(State state) {
            size--;
            state.copyFrom(states[(first + size) % MOST_STATES]);
        }
    }

    /** The text, and what was read of it last: one order, from start up to end, with its fault if it has one. */
    private static final class Text {
        final char[] characters;
        final int[] numbers;
        int length;
        int start;
        int end;
        int word;
        int reason;
        int cause;

        Text() {
            characters = new char[MOST_CHARACTERS];
            numbers = new int[2];
        }

        void append(char character) {
            characters[length] = character;
            length++;
        }

        // The order that was read last is then the first one with a fault.
        boolean hasFault() {
            int at = 0;
            for (int orders = 0; orders < MOST_CHARACTERS && at < length; orders++) {
                readOrder(at);
                if (reason != 0) {
                    return true;
                }
                at = end;
            }
            return false;
        }

        void readOrder(int from) {
            start = from;
            reason = 0;
            cause = 0;
            end = endOfLetters(from);
            word = wordUpTo(end);
            if (word == NONE) {
                end = from;
                reason = REASON_FORM;
                return;
            }
            int wanted = word == WORD_CUT ? 1 : 2;
            boolean formed = true;
            for (int i = 0; i < wanted && formed; i++) {
                formed = readNumber(i);
            }
            if (!formed || characterAt(end) != ';') {
                reason = REASON_FORM;
                cause = end - start;
                return;
            }
            end++;
            checkRanges();
        }

        // Moves the end behind the number, or to the character at which its form breaks off.
        boolean readNumber(int index) {
            if (characterAt(end) != ' ') {
                return false;
            }
            end++;
            if (!isDigit(characterAt(end))) {
                return false;
            }
            numbers[index] = characterAt(end) - '0';
            end++;
            if (isDigit(characterAt(end))) {
                numbers[index] = 10 * numbers[index] + (characterAt(end) - '0');
                end++;
            }
            return true;
        }

        void checkRanges() {
            if (word == WORD_CUT) {
                if (!isWithin(numbers[0], SETTING_LEAST[SETTING_CUT], SETTING_MOST[SETTING_CUT])) {
                    reason = REASON_RANGE;
                }
            } else if (!isAddress(numbers[0])) {
                reason = REASON_RANGE;
            } else if (!isWithin(numbers[1], 1, MOST_TIMES)) {
                reason = REASON_RANGE;
                cause = 1;
            }
        }

        int endOfLetters(int from) {
            int at = from;
            for (int i = 0; i < MOST_CHARACTERS && characterAt(at) >= 'a' && characterAt(at) <= 'z'; i++) {
                at++;
            }
            return at;
        }

        int wordUpTo(int to) {
            if (isWord("take", to)) {
                return WORD_TAKE;
            }
            if (isWord("skip", to)) {
                return WORD_SKIP;
            }
            if (isWord("flip", to)) {
                return WORD_FLIP;
            }
            if (isWord("loop", to)) {
                return WORD_LOOP;
            }
            return isWord("cut", to) ? WORD_CUT : NONE;
        }

        boolean isWord(String wanted, int to) {
            if (to - start != wanted.length()) {
                return false;
            }
            for (int i = 0; i < wanted.length(); i++) {
                if (characterAt(start + i) != wanted.charAt(i)) {
                    return false;
                }
            }
            return true;
        }

        // Behind the text there is a character that no order has.
        char characterAt(int at) {
            return isWithin(at, 0, length - 1) ? characters[at] : (char) 0;
        }

        static boolean isDigit(char character) {
            return character >= '0' && character <= '9';
        }
    }
}
