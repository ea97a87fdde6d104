/** Promises 1 (a new object), 15 (fields), 16 (lockedBy) and 17 (count). */
public final class LookTest {
    public static void main(String[] arguments) {
        HeapScript script = new HeapScript();
        newObject(script);
        fields(script);
        lockedBy(script);
        count(script);
        twoObjects();
        script.finish();
    }

    private static void newObject(HeapScript script) {
        script.run("1: nothing is there at first", """
                counts = 0 0 0 0 0 0 0 0
                lockedBy(0, 0) = 0
                lockedBy(0, 1) = 0
                lockedBy(0, 2) = 0
                lockedBy(0, 3) = 0
                fields(1) ! NoSuchElementException
                checkpoint() = 0
                crash() = 0
                begin() = 1
                getRoot(1, 0) = 0
                getRoot(1, 1) = 0
                getRoot(1, 2) = 0
                getRoot(1, 3) = 0
                make(1, 4) = 1
                """);
    }

    private static void fields(HeapScript script) {
        script.run("15: without a transaction, whoever has it locked, and without locking it", """
                begin() = 1
                make(1, 0) = 1
                make(1, 1) = 2
                make(1, 2) = 3
                make(1, 3) = 4
                make(1, 4) = 5
                fields(1) = 0
                fields(2) = 1
                fields(3) = 2
                fields(4) = 3
                fields(5) = 4
                commit(1) = 5
                fields(5) = 4
                lockedBy(5, 0) = 0
                fields(0) ! NoSuchElementException
                fields(6) ! NoSuchElementException
                fields(-1) ! NoSuchElementException
                fields(2147483647) ! NoSuchElementException
                fields(-2147483648) ! NoSuchElementException
                collect(-1) = 15
                fields(1) ! NoSuchElementException
                fields(5) ! NoSuchElementException
                """);
    }

    private static void lockedBy(HeapScript script) {
        script.run("16: objects whatever the root, roots for object 0", """
                begin() = 1
                begin() = 2
                make(2, 1) = 1
                getRoot(1, 0) = 0
                getRoot(2, 3) = 0
                lockedBy(1, 0) = 2
                lockedBy(1, 4) = 2
                lockedBy(1, -1) = 2
                lockedBy(0, 0) = 1
                lockedBy(0, 1) = 0
                lockedBy(0, 3) = 2
                lockedBy(0, 4) ! NoSuchElementException
                lockedBy(0, -1) ! NoSuchElementException
                lockedBy(2, 0) ! NoSuchElementException
                lockedBy(-1, 0) ! NoSuchElementException
                commit(1) = 1
                lockedBy(0, 0) = 0
                commit(2) = 2
                lockedBy(1, 0) = 0
                begin() = 3
                getInt(3, 1, 0) = 0
                lockedBy(1, 0) = 3
                abort(3) = 1
                lockedBy(1, 0) = 0
                collect(-1) = 2
                lockedBy(1, 0) ! NoSuchElementException
                """);
    }

    private static void count(HeapScript script) {
        script.run("17: each count by itself", """
                begin() = 1
                make(1, 4) = 1
                make(1, 1) = 2
                make(1, 0) = 3
                setRoot(1, 0, 2) = 1
                commit(1) = 4
                begin() = 2
                begin() = 3
                counts = 3 3 8 13 2 3 0 1
                collect(-1) = 6
                counts = 1 3 2 2 2 3 1 1
                make(3, 2) = 4
                counts = 2 4 5 4 2 3 1 2
                abort(3) = 1
                counts = 2 4 5 1 1 3 1 1
                count(8) ! IllegalArgumentException
                count(-1) ! IllegalArgumentException
                count(2147483647) ! IllegalArgumentException
                count(-2147483648) ! IllegalArgumentException
                """);
    }

    private static void twoObjects() {
        StableHeap one = new StableHeap();
        StableHeap other = new StableHeap();
        one.make(one.begin(), 3);
        if (other.count(0) != 0 || other.count(4) != 0 || other.begin() != 1) {
            System.out.println("1: two heaps share their state");
            System.exit(1);
        }
    }
}
