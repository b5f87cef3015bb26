import com.sun.management.ThreadMXBean;
import java.lang.management.ManagementFactory;
import java.lang.reflect.Array;
import java.lang.reflect.Field;
import java.lang.reflect.Modifier;
import java.util.Collections;
import java.util.IdentityHashMap;
import java.util.Set;

/** What an object makes in its constructor is little, and its calls make nothing. */
public final class RoomTest {
    private static final ThreadMXBean THREADS = (ThreadMXBean) ManagementFactory.getThreadMXBean();
    private static final Checks CHECKS = new Checks();
    private static final String TEXT = "loop 5 9;cut 7;flip 63 40;";

    private final Set<Object> objects = Collections.newSetFromMap(new IdentityHashMap<>());
    private int fields;

    private RoomTest() {
    }

    public static void main(String[] args) throws IllegalAccessException {
        CHECKS.about("room");
        // Twice ahead of the count: what the machine itself makes when code runs first is not the program's.
        callAll(new BranchBets());
        callAll(new BranchBets());
        BranchBets x = new BranchBets();
        long before = THREADS.getCurrentThreadAllocatedBytes();
        callAll(x);
        long calls = THREADS.getCurrentThreadAllocatedBytes() - before;
        CHECKS.due("bytes made by calls", calls, 0);
        before = THREADS.getCurrentThreadAllocatedBytes();
        BranchBets y = new BranchBets();
        long made = THREADS.getCurrentThreadAllocatedBytes() - before;
        CHECKS.that("an object takes " + made + " bytes", made > 0 && made < 20000);
        CHECKS.due("oracles", y.count(0), 0);
        held(y);
        held(x);
        CHECKS.end();
    }

    /** As many as README.md says, also behind all calls. */
    private static void held(BranchBets x) throws IllegalAccessException {
        RoomTest room = new RoomTest();
        room.add(x);
        CHECKS.due("objects and arrays", room.objects.size(), 150);
        CHECKS.due("fields and elements", room.fields, 1991);
    }

    private void add(Object object) throws IllegalAccessException {
        if (object == null || !objects.add(object)) {
            return;
        }
        if (object.getClass().isArray()) {
            boolean ofObjects = !object.getClass().getComponentType().isPrimitive();
            fields += Array.getLength(object);
            for (int i = 0; ofObjects && i < Array.getLength(object); i++) {
                add(Array.get(object, i));
            }
            return;
        }
        for (Field each : object.getClass().getDeclaredFields()) {
            if (!Modifier.isStatic(each.getModifiers())) {
                fields++;
                each.setAccessible(true);
                if (!each.getType().isPrimitive()) {
                    add(each.get(object));
                }
            }
        }
    }

    private static void callAll(BranchBets x) {
        for (int i = 0; i < 6; i++) {
            x.oracle(i % 5, 0, 500);
            x.seat(i, i % 3);
            x.seat(i, 1);
        }
        x.lend(0, 1, 5);
        x.lend(5, 0, 5);
        x.set(0, 20);
        for (int i = 0; i < TEXT.length(); i++) {
            x.type(TEXT.charAt(i));
        }
        x.fault(0);
        x.play();
        x.clearText();
        x.type('x');
        x.fault(2);
        x.play();
        for (int i = 0; i < 12; i += 3) {
            x.branch(i, i & 1);
            x.give(i, 9);
            x.share(i);
            x.rich(i);
            x.loanOf(i, 2);
            x.count(i);
            x.odds(i);
            for (int oracle = -1; oracle < 7; oracle++) {
                x.oracleOf(oracle, i);
                x.counter(oracle, i);
                x.aliases(oracle, i);
                x.says(oracle, i);
                x.stake(oracle, i);
                x.gain(oracle, i, 1);
                x.doom(oracle, i, 0);
                x.bestRow(oracle, i, 5, 1);
            }
        }
        x.stand(0);
        for (int i = 0; i < 5; i++) {
            x.undo();
        }
    }
}
