import java.util.List;
import java.util.Map;
import java.util.TreeMap;
import java.util.function.IntSupplier;

/** All promises together: long runs of drawn calls, each answer compared with that of HeapModel. */
public final class RandomRunsTest {
    private static final int RUNS = 3000;
    private static final int CALLS = 512;
    private static final int KINDS_OF_RUN = 6;

    private final StableHeap heap = new StableHeap();
    private final HeapModel model = new HeapModel();
    private final int kind;
    private long state;
    private String call;
    private String due;

    private RandomRunsTest(int run) {
        kind = run % KINDS_OF_RUN;
        state = run * 7919L + 17;
    }

    public static void main(String[] arguments) {
        int wrong = 0;
        Map<String, Integer> outcomes = new TreeMap<>();
        for (int run = 0; run < RUNS && wrong < 5; run++) {
            wrong += new RandomRunsTest(run).play(run, outcomes) ? 0 : 1;
        }
        System.out.println(RUNS + " runs of " + CALLS + " calls, " + wrong + " wrong; seen: " + outcomes);
        if (wrong != 0) {
            System.exit(1);
        }
    }

    private boolean play(int run, Map<String, Integer> outcomes) {
        StringBuilder told = new StringBuilder();
        for (int i = 0; i < CALLS; i++) {
            String got = outcome(draw());
            told.append(call).append(" = ").append(got).append('\n');
            String sort = got.matches("-?\\d+") ? "answer" : got;
            outcomes.merge(call.substring(0, call.indexOf('(')) + " " + sort, 1, Integer::sum);
            if (!got.equals(due)) {
                System.out.println("run " + run + ":\n" + told + "due was " + due);
                return false;
            }
        }
        return true;
    }

    private static String outcome(IntSupplier call) {
        try {
            return "" + call.getAsInt();
        } catch (RuntimeException e) {
            return e.getClass().getSimpleName();
        }
    }

    private int below(int bound) {
        state = state * 6364136223846793005L + 1442695040888963407L;
        return (int) ((state >>> 33) % bound);
    }

    private boolean oneIn(int n) {
        return below(n) == 0;
    }

    private int transaction() {
        return oneOf(model.activeTransactions(), modelCount(5));
    }

    private int object() {
        return oneOf(model.objectsThere(), modelCount(1));
    }

    private int oneOf(List<Integer> fit, int last) {
        return fit.isEmpty() || oneIn(25) ? below(last + 3) - 1 : fit.get(below(fit.size()));
    }

    private int target() {
        return oneIn(5) ? 0 : object();
    }

    private int field() {
        return oneIn(20) ? below(7) - 1 : below(2);
    }

    private int root() {
        return oneIn(20) ? below(7) - 1 : below(4);
    }

    // Asked of the model alone, so that drawing does not use up the calls of the heap.
    private int modelCount(int what) {
        return Integer.parseInt(model.count(what));
    }

    private void tell(String call, String due) {
        this.call = call;
        this.due = due;
    }

    private IntSupplier draw() {
        int choice = below(100);
        if (choice < 9) {
            tell("begin()", model.begin());
            return heap::begin;
        }
        if (choice < 55) {
            return drawChange(choice);
        }
        if (choice < 60) {
            return drawEnd();
        }
        // Without this in half of the runs, the log would hardly ever be full.
        if (choice < 64 && (kind % 2 == 0 || oneIn(8))) {
            return drawRecovery();
        }
        return choice < 84 ? drawRead(choice) : drawLook(choice);
    }

    private IntSupplier drawChange(int choice) {
        int t = transaction();
        int o = object();
        int f = field();
        int to = target();
        if (choice < (kind < 3 ? 24 : 14)) {
            int n = oneIn(20) ? below(8) - 2 : kind == 0 ? below(2) : below(5);
            tell("make(" + t + ", " + n + ")", model.make(t, n));
            return () -> heap.make(t, n);
        }
        if (choice < 30) {
            int r = root();
            tell("setRoot(" + t + ", " + r + ", " + to + ")", model.setRoot(t, r, to));
            return () -> heap.setRoot(t, r, to);
        }
        if (choice < 46) {
            tell("setReference(" + t + ", " + o + ", " + f + ", " + to + ")", model.setReference(t, o, f, to));
            return () -> heap.setReference(t, o, f, to);
        }
        int value = below(9) - 4;
        tell("setInt(" + t + ", " + o + ", " + f + ", " + value + ")", model.setInt(t, o, f, value));
        return () -> heap.setInt(t, o, f, value);
    }

    private IntSupplier drawEnd() {
        int t = transaction();
        if (oneIn(3)) {
            tell("abort(" + t + ")", model.abort(t));
            return () -> heap.abort(t);
        }
        tell("commit(" + t + ")", model.commit(t));
        return () -> heap.commit(t);
    }

    private IntSupplier drawRecovery() {
        int choice = below(4);
        if (choice == 0) {
            tell("crash()", model.crash());
            return heap::crash;
        }
        if (choice == 1) {
            tell("checkpoint()", model.checkpoint());
            return heap::checkpoint;
        }
        int held = modelCount(7);
        int copies = oneIn(2) ? -1 : held + below(5) - 2;
        tell("collect(" + copies + ")", model.collect(copies));
        return () -> heap.collect(copies);
    }

    private IntSupplier drawRead(int choice) {
        int t = transaction();
        int o = object();
        int f = field();
        if (choice < 68) {
            int r = root();
            tell("getRoot(" + t + ", " + r + ")", model.getRoot(t, r));
            return () -> heap.getRoot(t, r);
        }
        if (choice < 76) {
            tell("getReference(" + t + ", " + o + ", " + f + ")", model.getReference(t, o, f));
            return () -> heap.getReference(t, o, f);
        }
        tell("getInt(" + t + ", " + o + ", " + f + ")", model.getInt(t, o, f));
        return () -> heap.getInt(t, o, f);
    }

    private IntSupplier drawLook(int choice) {
        int o = object();
        int r = root();
        if (choice < 86) {
            tell("fields(" + o + ")", model.fields(o));
            return () -> heap.fields(o);
        }
        if (choice < 90) {
            int named = oneIn(2) ? 0 : o;
            tell("lockedBy(" + named + ", " + r + ")", model.lockedBy(named, r));
            return () -> heap.lockedBy(named, r);
        }
        int what = oneIn(30) ? below(20) - 5 : below(8);
        tell("count(" + what + ")", model.count(what));
        return () -> heap.count(what);
    }
}
