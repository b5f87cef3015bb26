import java.util.ArrayDeque;
import java.util.ArrayList;
import java.util.Comparator;
import java.util.Deque;
import java.util.List;
import java.util.TreeSet;
import java.util.function.IntPredicate;
import java.util.regex.Matcher;
import java.util.regex.Pattern;
import java.util.stream.IntStream;

/**
 * The document once more, written from its words in another way than the program: states are lists that are
 * copied whole, the past is told by lists of all branches, texts are read by patterns.
 */
final class Model {
    private static final int INVALID = -1000001;
    private static final int NOT_POSSIBLE = -1000002;
    private static final int LIMIT = -1000003;
    private static final int NOT_FOUND = -1000004;

    private static final Pattern ORDER =
            Pattern.compile("(?:(take|skip|flip|loop) ([0-9]{1,2}) ([0-9]{1,2})|(cut) ([0-9]{1,2}));");
    private static final Pattern WORD = Pattern.compile("take|skip|flip|loop|cut");
    private static final Pattern LETTERS = Pattern.compile("[a-z]*");
    private static final Pattern START_OF_ORDER = Pattern.compile(
            "(?:take|skip|flip|loop)(?: (?:[0-9][0-9]?(?: (?:[0-9][0-9]?;?)?)?)?)?|cut(?: (?:[0-9][0-9]?;?)?)?");

    private static final class Oracle {
        int kind;
        int number;
        int purse;
        int booth = -1;
        int seat = -1;
        int ruins;
        List<Boolean> outcomes = new ArrayList<>();
        List<Integer> counters = new ArrayList<>();

        Oracle copy() {
            Oracle other = new Oracle();
            other.kind = kind;
            other.number = number;
            other.purse = purse;
            other.booth = booth;
            other.seat = seat;
            other.ruins = ruins;
            other.outcomes = new ArrayList<>(outcomes);
            other.counters = new ArrayList<>(counters);
            return other;
        }

        boolean plays() {
            return booth >= 0 && purse > 0;
        }

        int right() {
            return (int) outcomes.stream().filter(each -> each).count();
        }
    }

    private record Loan(int creditor, int debtor, int owed) {
    }

    private record Visit(int address, int taken) {
    }

    private record Fault(int position, int reason, int cause) {
        int get(int what) {
            return what == 0 ? position : what == 1 ? reason : cause;
        }
    }

    private static final class World {
        List<Oracle> oracles = new ArrayList<>();
        List<Loan> loans = new ArrayList<>();
        List<Visit> visits = new ArrayList<>();
        int[] settings = {5, 10, 50};
        int house;
        int bets;

        World copy() {
            World other = new World();
            for (Oracle each : oracles) {
                other.oracles.add(each.copy());
            }
            other.loans = new ArrayList<>(loans);
            other.visits = new ArrayList<>(visits);
            other.settings = settings.clone();
            other.house = house;
            other.bets = bets;
            return other;
        }

        int history() {
            int history = 0;
            for (Visit each : visits.subList(Math.max(0, visits.size() - 8), visits.size())) {
                history = 2 * history + each.taken;
            }
            return history;
        }

        /** The number of the counter, or -1 without a table. */
        int index(Oracle oracle, int address) {
            int size = 1;
            for (int i = 0; i < oracle.number; i++) {
                size *= 2;
            }
            return switch (oracle.kind) {
                case 1 -> address % size;
                case 2 -> history() % size;
                case 3 -> (address ^ history()) % size;
                default -> -1;
            };
        }

        int says(Oracle oracle, int address) {
            if (oracle.kind == 0) {
                return oracle.number;
            }
            if (oracle.kind < 4) {
                return oracle.counters.get(index(oracle, address)) > 1 ? 1 : 0;
            }
            int difference = 0;
            for (Oracle other : oracles) {
                if (other.kind != 4 && other.plays()) {
                    difference += says(other, address) == 1 ? other.purse : -other.purse;
                }
            }
            return difference < 0 ? 1 : 0;
        }

        int stake(Oracle oracle, int address) {
            if (!oracle.plays()) {
                return 0;
            }
            int wanted = settings[0];
            int index = index(oracle, address);
            if (index >= 0 && oracle.counters.get(index) % 3 == 0) {
                wanted *= 2;
            }
            return wanted < oracle.purse ? wanted : oracle.purse;
        }

        int branch(int address, int taken) {
            List<Oracle> players = oracles.stream().filter(Oracle::plays).toList();
            List<Oracle> right = players.stream().filter(each -> says(each, address) == taken).toList();
            List<Oracle> wrong = players.stream().filter(each -> says(each, address) != taken).toList();
            List<Integer> stakes = right.stream().map(each -> stake(each, address)).toList();
            int paid = 0;
            if (!right.isEmpty() && !wrong.isEmpty()) {
                for (Oracle each : wrong) {
                    int coins = stake(each, address);
                    each.purse -= coins;
                    paid += coins;
                }
                share(paid, right, stakes);
                bets++;
            }
            for (Oracle each : players) {
                each.outcomes.add(right.contains(each));
                if (each.purse == 0) {
                    each.ruins++;
                }
            }
            for (Oracle each : oracles) {
                int index = index(each, address);
                if (index >= 0) {
                    int counter = each.counters.get(index) + (taken == 1 ? 1 : -1);
                    each.counters.set(index, counter > 3 ? 3 : counter < 0 ? 0 : counter);
                }
            }
            visits.add(new Visit(address, taken));
            return paid;
        }

        private void share(int paid, List<Oracle> right, List<Integer> stakes) {
            int all = stakes.stream().mapToInt(Integer::intValue).sum();
            int cut = Math.floorDiv(paid * settings[1], 100);
            int left = paid - cut;
            int over = left;
            for (int i = 0; i < right.size(); i++) {
                int got = Math.floorDiv(left * stakes.get(i), all);
                right.get(i).purse += got;
                over -= got;
                repay(oracles.indexOf(right.get(i)), Math.floorDiv(got * settings[2], 100));
            }
            house += cut + over;
        }

        private void repay(int debtor, int share) {
            List<Loan> kept = new ArrayList<>();
            int rest = share;
            for (Loan each : loans) {
                int coins = each.debtor == debtor ? Math.min(rest, each.owed) : 0;
                rest -= coins;
                oracles.get(debtor).purse -= coins;
                oracles.get(each.creditor).purse += coins;
                if (each.owed > coins) {
                    kept.add(new Loan(each.creditor, each.debtor, each.owed - coins));
                }
            }
            loans = kept;
        }
    }

    private World world = new World();
    private final Deque<World> past = new ArrayDeque<>();
    private String text = "";

    private void change() {
        past.addLast(world.copy());
        if (past.size() > 4) {
            past.removeFirst();
        }
    }

    private boolean isOracle(int oracle) {
        return oracle >= 0 && oracle < world.oracles.size();
    }

    private static boolean isAddress(int address) {
        return address >= 0 && address < 64;
    }

    private static boolean isBit(int value) {
        return value == 0 || value == 1;
    }

    private static int bits(int part, int whole) {
        return Float.floatToIntBits((float) part / (float) whole);
    }

    int set(int what, int value) {
        int[][] ranges = {{1, 50}, {0, 50}, {0, 100}};
        if (what < 0 || what > 2 || value < ranges[what][0] || value > ranges[what][1]) {
            return INVALID;
        }
        change();
        int before = world.settings[what];
        world.settings[what] = value;
        return before;
    }

    int oracle(int kind, int number, int purse) {
        int[] most = {1, 5, 5, 5, 0};
        if (kind < 0 || kind > 4 || number < 0 || number > most[kind] || purse < 0 || purse > 9999) {
            return INVALID;
        }
        if (world.oracles.size() == 6) {
            return LIMIT;
        }
        change();
        Oracle added = new Oracle();
        added.kind = kind;
        added.number = number;
        added.purse = purse;
        if (kind >= 1 && kind <= 3) {
            for (int i = 0; i < Math.pow(2, number); i++) {
                added.counters.add(1);
            }
        }
        world.oracles.add(added);
        return world.oracles.size() - 1;
    }

    int seat(int oracle, int booth) {
        if (!isOracle(oracle) || booth < 0 || booth > 2) {
            return INVALID;
        }
        int kind = world.oracles.get(oracle).kind;
        boolean taken = switch (booth) {
            case 0 -> kind == 0;
            case 1 -> kind == 1 || kind == 2 || kind == 3;
            default -> true;
        };
        if (world.oracles.get(oracle).booth >= 0 || !taken) {
            return NOT_POSSIBLE;
        }
        TreeSet<Integer> free = new TreeSet<>(List.of(0, 1));
        world.oracles.stream().filter(each -> each.booth == booth).forEach(each -> free.remove(each.seat));
        if (free.isEmpty()) {
            return LIMIT;
        }
        change();
        world.oracles.get(oracle).booth = booth;
        world.oracles.get(oracle).seat = free.first();
        return 3 - free.size();
    }

    int stand(int oracle) {
        if (!isOracle(oracle)) {
            return INVALID;
        }
        if (world.oracles.get(oracle).booth < 0) {
            return NOT_POSSIBLE;
        }
        change();
        int booth = world.oracles.get(oracle).booth;
        world.oracles.get(oracle).booth = -1;
        world.oracles.get(oracle).seat = -1;
        return booth;
    }

    int give(int oracle, int coins) {
        if (!isOracle(oracle) || coins < 1 || coins > 9999) {
            return INVALID;
        }
        if (world.oracles.get(oracle).purse + coins > 100000) {
            return LIMIT;
        }
        change();
        return world.oracles.get(oracle).purse += coins;
    }

    int lend(int creditor, int debtor, int coins) {
        if (!isOracle(creditor) || !isOracle(debtor) || creditor == debtor || coins < 1 || coins > 9999) {
            return INVALID;
        }
        if (world.oracles.get(creditor).purse < coins) {
            return NOT_POSSIBLE;
        }
        if (world.loans.size() == 8) {
            return LIMIT;
        }
        change();
        world.oracles.get(creditor).purse -= coins;
        world.oracles.get(debtor).purse += coins;
        world.loans.add(new Loan(creditor, debtor, coins));
        return world.loans.size() - 1;
    }

    int branch(int address, int taken) {
        if (!isAddress(address) || !isBit(taken)) {
            return INVALID;
        }
        change();
        return world.branch(address, taken);
    }

    int oracleOf(int oracle, int what) {
        if (!isOracle(oracle) || what < 0 || what > 10) {
            return INVALID;
        }
        Oracle it = world.oracles.get(oracle);
        return switch (what) {
            case 0 -> it.kind;
            case 1 -> it.number;
            case 2 -> it.purse;
            case 3 -> it.booth < 0 ? NOT_FOUND : it.booth;
            case 4 -> it.booth < 0 ? NOT_FOUND : it.seat;
            case 5 -> it.right();
            case 6 -> it.outcomes.size() - it.right();
            case 7 -> record(it);
            case 8 -> it.ruins;
            case 9 -> world.loans.stream().filter(each -> each.debtor == oracle).mapToInt(Loan::owed).sum();
            default -> world.loans.stream().filter(each -> each.creditor == oracle).mapToInt(Loan::owed).sum();
        };
    }

    private static int record(Oracle oracle) {
        int size = oracle.outcomes.size();
        int record = 0;
        for (int bit = 0; bit < 16 && bit < size; bit++) {
            if (oracle.outcomes.get(size - 1 - bit)) {
                record |= 1 << bit;
            }
        }
        return record;
    }

    int counter(int oracle, int index) {
        if (!isOracle(oracle) || index < 0) {
            return INVALID;
        }
        List<Integer> counters = world.oracles.get(oracle).counters;
        return index < counters.size() ? counters.get(index) : NOT_FOUND;
    }

    int loanOf(int loan, int what) {
        if (loan < 0 || loan >= world.loans.size() || what < 0 || what > 2) {
            return INVALID;
        }
        Loan it = world.loans.get(loan);
        return what == 0 ? it.creditor : what == 1 ? it.debtor : it.owed;
    }

    int aliases(int oracle, int address) {
        if (!isOracle(oracle) || !isAddress(address)) {
            return INVALID;
        }
        Oracle it = world.oracles.get(oracle);
        if (it.counters.isEmpty()) {
            return NOT_FOUND;
        }
        return (int) world.visits.stream().mapToInt(Visit::address).distinct()
                .filter(other -> other != address && world.index(it, other) == world.index(it, address)).count();
    }

    int share(int oracle) {
        if (!isOracle(oracle)) {
            return INVALID;
        }
        Oracle it = world.oracles.get(oracle);
        return it.outcomes.isEmpty() ? NOT_FOUND : bits(it.right(), it.outcomes.size());
    }

    int rich(int place) {
        if (place < 0) {
            return INVALID;
        }
        List<Integer> order = IntStream.range(0, world.oracles.size()).boxed()
                .sorted(Comparator.comparingInt(each -> -world.oracles.get(each).purse)).toList();
        return place < order.size() ? order.get(place) : NOT_FOUND;
    }

    int says(int oracle, int address) {
        if (!isOracle(oracle) || !isAddress(address)) {
            return INVALID;
        }
        return world.says(world.oracles.get(oracle), address);
    }

    int stake(int oracle, int address) {
        if (!isOracle(oracle) || !isAddress(address)) {
            return INVALID;
        }
        return world.stake(world.oracles.get(oracle), address);
    }

    int odds(int address) {
        if (!isAddress(address)) {
            return INVALID;
        }
        int all = world.oracles.stream().mapToInt(each -> world.stake(each, address)).sum();
        int ones = world.oracles.stream().filter(each -> world.says(each, address) == 1)
                .mapToInt(each -> world.stake(each, address)).sum();
        return all == 0 ? NOT_FOUND : bits(ones, all);
    }

    int gain(int oracle, int address, int taken) {
        if (!isOracle(oracle) || !isAddress(address) || !isBit(taken)) {
            return INVALID;
        }
        World then = world.copy();
        then.branch(address, taken);
        return then.oracles.get(oracle).purse - world.oracles.get(oracle).purse;
    }

    int doom(int oracle, int address, int taken) {
        if (!isOracle(oracle) || !isAddress(address) || !isBit(taken)) {
            return INVALID;
        }
        World then = world.copy();
        int branches = 0;
        while (then.oracles.get(oracle).purse > 0 && branches <= 100) {
            then.branch(address, taken);
            branches++;
        }
        return branches <= 100 ? branches : NOT_FOUND;
    }

    int bestRow(int oracle, int address, int times, int what) {
        if (!isOracle(oracle) || !isAddress(address) || times < 1 || times > 5 || !isBit(what)) {
            return INVALID;
        }
        int[] best = best(world, oracle, address, times);
        return best[what];
    }

    /** The best row and its purse, the first branch tried both ways. */
    private static int[] best(World from, int oracle, int address, int times) {
        if (times == 0) {
            return new int[] {0, from.oracles.get(oracle).purse};
        }
        int[][] found = new int[2][];
        for (int taken = 0; taken <= 1; taken++) {
            World then = from.copy();
            then.branch(address, taken);
            found[taken] = best(then, oracle, address, times - 1);
        }
        if (found[1][1] > found[0][1]) {
            return new int[] {found[1][0] + (int) Math.pow(2, times - 1), found[1][1]};
        }
        return found[0];
    }

    int count(int what) {
        IntPredicate ruined = i -> world.oracles.get(i).purse == 0;
        return switch (what) {
            case 0 -> world.oracles.size();
            case 1 -> (int) world.oracles.stream().filter(each -> each.booth >= 0).count();
            case 2 -> (int) IntStream.range(0, world.oracles.size()).filter(ruined).count();
            case 3 -> world.house;
            case 4 -> world.house + world.oracles.stream().mapToInt(each -> each.purse).sum();
            case 5 -> world.history();
            case 6 -> world.visits.size();
            case 7 -> world.bets;
            case 8 -> world.loans.size();
            case 9 -> past.size();
            case 10 -> text.length();
            case 20, 21, 22 -> world.settings[what - 20];
            default -> INVALID;
        };
    }

    int undo() {
        if (past.isEmpty()) {
            return NOT_POSSIBLE;
        }
        world = past.removeLast();
        return past.size();
    }

    int type(int character) {
        if (character < 32 || character > 126) {
            return INVALID;
        }
        if (text.length() == 80) {
            return LIMIT;
        }
        text += (char) character;
        return text.length();
    }

    int clearText() {
        int before = text.length();
        text = "";
        return before;
    }

    private static boolean isOutOfRange(String number, int least, int most) {
        return Integer.parseInt(number) < least || Integer.parseInt(number) > most;
    }

    /** The fault of the text, or null. */
    private Fault faultOfText() {
        int at = 0;
        while (at < text.length()) {
            String rest = text.substring(at);
            Matcher order = ORDER.matcher(rest);
            if (!order.lookingAt()) {
                return new Fault(at, 1, breakOf(rest));
            }
            if (order.group(4) != null) {
                if (isOutOfRange(order.group(5), 0, 50)) {
                    return new Fault(at, 2, 0);
                }
            } else if (isOutOfRange(order.group(2), 0, 63)) {
                return new Fault(at, 2, 0);
            } else if (isOutOfRange(order.group(3), 1, 40)) {
                return new Fault(at, 2, 1);
            }
            at += order.end();
        }
        return null;
    }

    private static int breakOf(String rest) {
        Matcher letters = LETTERS.matcher(rest);
        letters.lookingAt();
        if (!WORD.matcher(letters.group()).matches()) {
            return 0;
        }
        Matcher start = START_OF_ORDER.matcher(rest);
        start.lookingAt();
        return start.end();
    }

    int fault(int what) {
        if (what < 0 || what > 2) {
            return INVALID;
        }
        Fault fault = faultOfText();
        return fault == null ? NOT_FOUND : fault.get(what);
    }

    int play() {
        if (faultOfText() != null) {
            return NOT_POSSIBLE;
        }
        change();
        int before = world.visits.size();
        for (String order : text.isEmpty() ? new String[0] : text.split(";")) {
            String[] parts = order.split(" ");
            int first = Integer.parseInt(parts[1]);
            if (parts[0].equals("cut")) {
                world.settings[1] = first;
                continue;
            }
            String ways = ways(parts[0], Integer.parseInt(parts[2]));
            for (char way : ways.toCharArray()) {
                world.branch(first, way - '0');
            }
        }
        return world.visits.size() - before;
    }

    private static String ways(String word, int times) {
        return switch (word) {
            case "take" -> "1".repeat(times);
            case "skip" -> "0".repeat(times);
            case "flip" -> "10".repeat(times).substring(0, times);
            default -> "1".repeat(times - 1) + "0";
        };
    }
}
