import java.util.Arrays;

/** "An object is used for at most 512 calls": runs that take all of them, and the last answers as right as the first. */
public final class LongRunTest {
    private static final int SPACE = 80;

    private int wrong;
    private String title;
    private HeapCalls heap;

    public static void main(String[] arguments) {
        LongRunTest test = new LongRunTest();
        test.flips();
        test.transactions();
        test.handles();
        test.refusals();
        test.crashes();
        test.reads();
        System.out.println("6 runs of up to " + HeapCalls.MOST_CALLS + " calls, " + test.wrong + " wrong");
        if (test.wrong != 0) {
            System.exit(1);
        }
    }

    private void start(String title) {
        this.title = title;
        heap = new HeapCalls();
    }

    private boolean hasCalls(int calls) {
        return heap.made() + calls <= HeapCalls.MOST_CALLS;
    }

    private void due(Object due, String name, Integer... arguments) {
        String got = heap.call(name, arguments);
        if (!got.equals(due.toString())) {
            wrong++;
            System.out.println(title + ", call " + heap.made() + ": " + name + Arrays.toString(arguments)
                    + " answered " + got + ", due is " + due);
        }
    }

    private void flips() {
        start("every call a flip");
        int flips = 0;
        for (; hasCalls(2); flips++) {
            due(0, "collect", -1);
        }
        due(flips, "count", 6);
    }

    private void transactions() {
        start("a transaction every other call");
        int begun = 0;
        while (hasCalls(4)) {
            begun++;
            due(begun, "begin");
            due(0, begun % 2 == 0 ? "commit" : "abort", begun);
            if (begun % 150 == 0) {
                due(0, "checkpoint");
            }
        }
        due(begun, "count", 5);
        due("NoSuchElementException", "commit", begun);
    }

    private void handles() {
        start("an object made in nearly every call, the space filled and emptied");
        int handles = 0;
        for (int transaction = 1; hasCalls(SPACE); transaction++) {
            due(transaction, "begin");
            for (int i = 0; i < 74; i++) {
                handles++;
                due(handles, "make", transaction, 0);
            }
            due(149, "count", 3);
            due(74, "commit", transaction);
            due(74, "collect", 0);
        }
        due(handles, "count", 1);
        due(0, "count", 0);
        due("NoSuchElementException", "fields", handles);
    }

    private void refusals() {
        start("calls that throw, and change nothing however many they are");
        due(1, "begin");
        due(1, "make", 1, 4);
        while (hasCalls(5)) {
            due("IllegalArgumentException", "make", 1, 5);
            due("IllegalArgumentException", "setRoot", 1, 0, 2);
            due("IndexOutOfBoundsException", "setInt", 1, 1, 4, 0);
            due("NoSuchElementException", "commit", 2);
        }
        while (hasCalls(2)) {
            due(3, "count", 3);
        }
        due(1, "commit", 1);
    }

    private void crashes() {
        start("a crash every fourth call");
        due(1, "begin");
        due(1, "make", 1, 1);
        due(1, "setRoot", 1, 0, 1);
        due(1, "setInt", 1, 1, 0, 9);
        due(2, "commit", 1);
        int transaction = 1;
        while (hasCalls(7)) {
            transaction++;
            due(transaction, "begin");
            due(9, "getInt", transaction, 1, 0);
            due(1, "setInt", transaction, 1, 0, transaction);
            due(transaction % 2 == 0 ? 1 : -2, transaction % 2 == 0 ? "crash" : "collect",
                    transaction % 2 == 0 ? new Integer[0] : new Integer[] {0});
        }
        due(0, "count", 6);
        due(transaction + 1, "begin");
        due(9, "getInt", transaction + 1, 1, 0);
    }

    private void reads() {
        start("reads, which lock once and write no record");
        due(1, "begin");
        due(1, "make", 1, 1);
        while (hasCalls(4)) {
            due(0, "getInt", 1, 1, 0);
            due(0, "getRoot", 1, 3);
        }
        due(3, "count", 3);
        due(2, "commit", 1);
    }
}
