/**
 * "What is thrown is told in the order of testing": for each call a state in which all that it can throw is due at
 * once, put right from the first to the last, so that each exception is told before all that come behind it.
 */
public final class OrderOfTestingTest {
    // Transaction 2 has object 2 and root 2 locked, 1 has object 1; 3, object 3 and field 1 are not there.
    private static final String FULL = """
            begin() = 1
            begin() = 2
            make(1, 1) = 1
            make(2, 1) = 2
            getRoot(2, 2) = 0
            48 * setInt(1, 1, 0, 3) = 1
            count(3) = 150
            """;

    public static void main(String[] arguments) {
        HeapScript script = new HeapScript();
        begin(script);
        make(script);
        setInt(script);
        setReference(script);
        setRoot(script);
        reads(script);
        commit(script);
        script.finish();
    }

    private static void begin(HeapScript script) {
        script.run("begin: three active, a full log", """
                begin() = 1
                begin() = 2
                begin() = 3
                49 * setRoot(1, 0, 0) = 1
                count(3) = 150
                begin() ! IllegalStateException
                abort(2) = 0
                abort(3) = 0
                count(3) = 148
                begin() = 4
                commit(4) = 0
                count(3) = 150
                begin() ! UnsupportedOperationException
                """);
    }

    private static void make(HeapScript script) {
        script.run("make: no such transaction, n too large or small, no space, a full log", """
                begin() = 1
                16 * make(1, 4) = 1 ..
                begin() = 2
                38 * setInt(1, 1, 0, 3) = 1
                begin() = 3
                count(2) = 80
                count(3) = 149
                make(4, 5) ! NoSuchElementException
                make(4, -1) ! NoSuchElementException
                make(4, 4) ! NoSuchElementException
                make(1, 5) ! IllegalArgumentException
                make(1, -1) ! IllegalArgumentException
                make(1, 4) ! IllegalStateException
                make(1, 0) ! IllegalStateException
                """);
        script.run("make: no such transaction, n too large or small, a full log", """
                begin() = 1
                make(1, 1) = 1
                48 * setInt(1, 1, 0, 3) = 1
                begin() = 2
                begin() = 3
                count(3) = 149
                make(4, 5) ! NoSuchElementException
                make(4, 0) ! NoSuchElementException
                make(1, 5) ! IllegalArgumentException
                make(1, -1) ! IllegalArgumentException
                make(1, 0) ! UnsupportedOperationException
                make(1, 4) ! UnsupportedOperationException
                """);
    }

    private static void setInt(HeapScript script) {
        script.run("setInt: transaction, object, field, lock, log", FULL + """
                setInt(3, 3, 1, 7) ! NoSuchElementException
                setInt(3, 2, 1, 7) ! NoSuchElementException
                setInt(3, 2, 0, 7) ! NoSuchElementException
                setInt(3, 1, 0, 7) ! NoSuchElementException
                setInt(1, 3, 1, 7) ! NoSuchElementException
                setInt(1, 3, 0, 7) ! NoSuchElementException
                setInt(1, 2, 1, 7) ! IndexOutOfBoundsException
                setInt(1, 1, 1, 7) ! IndexOutOfBoundsException
                setInt(1, 2, 0, 7) ! IllegalStateException
                setInt(1, 1, 0, 7) ! UnsupportedOperationException
                abort(2) = 2
                setInt(1, 2, 0, 7) = 1
                """);
    }

    private static void setReference(HeapScript script) {
        script.run("setReference: transaction, object, field, lock, target, log", FULL + """
                setReference(3, 3, 1, 3) ! NoSuchElementException
                setReference(3, 2, 1, 3) ! NoSuchElementException
                setReference(3, 2, 0, 3) ! NoSuchElementException
                setReference(3, 1, 0, 3) ! NoSuchElementException
                setReference(3, 1, 0, 1) ! NoSuchElementException
                setReference(1, 3, 1, 3) ! NoSuchElementException
                setReference(1, 3, 0, 3) ! NoSuchElementException
                setReference(1, 3, 0, 1) ! NoSuchElementException
                setReference(1, 2, 1, 3) ! IndexOutOfBoundsException
                setReference(1, 1, 1, 3) ! IndexOutOfBoundsException
                setReference(1, 1, 1, 1) ! IndexOutOfBoundsException
                setReference(1, 2, 0, 3) ! IllegalStateException
                setReference(1, 2, 0, 1) ! IllegalStateException
                setReference(1, 1, 0, 3) ! IllegalArgumentException
                setReference(1, 1, 0, -1) ! IllegalArgumentException
                setReference(1, 1, 0, 1) ! UnsupportedOperationException
                setReference(1, 1, 0, 0) ! UnsupportedOperationException
                abort(2) = 2
                setReference(1, 2, 0, 3) ! IllegalArgumentException
                setReference(1, 2, 0, 1) = 1
                """);
    }

    private static void setRoot(HeapScript script) {
        script.run("setRoot: transaction, root, lock, target, log", FULL + """
                setRoot(3, 4, 3) ! NoSuchElementException
                setRoot(3, 2, 3) ! NoSuchElementException
                setRoot(3, 0, 3) ! NoSuchElementException
                setRoot(3, 0, 1) ! NoSuchElementException
                setRoot(1, 4, 3) ! IndexOutOfBoundsException
                setRoot(1, 4, 1) ! IndexOutOfBoundsException
                setRoot(1, 2, 3) ! IllegalStateException
                setRoot(1, 2, 1) ! IllegalStateException
                setRoot(1, 0, 3) ! IllegalArgumentException
                setRoot(1, 0, -1) ! IllegalArgumentException
                setRoot(1, 0, 1) ! UnsupportedOperationException
                setRoot(1, 0, 0) ! UnsupportedOperationException
                abort(2) = 2
                setRoot(1, 2, 3) ! IllegalArgumentException
                setRoot(1, 2, 1) = 1
                """);
    }

    private static void reads(HeapScript script) {
        script.run("getInt: transaction, object, field, lock, kind", FULL + """
                getInt(3, 3, 1) ! NoSuchElementException
                getInt(3, 2, 1) ! NoSuchElementException
                getInt(3, 2, 0) ! NoSuchElementException
                getInt(1, 3, 1) ! NoSuchElementException
                getInt(1, 3, 0) ! NoSuchElementException
                getInt(1, 2, 1) ! IndexOutOfBoundsException
                getInt(1, 2, 0) ! IllegalStateException
                checkpoint() = 150
                abort(1) = 1
                setReference(2, 2, 0, 2) = 1
                begin() = 3
                getInt(1, 2, 0) ! NoSuchElementException
                getInt(3, 2, 1) ! IndexOutOfBoundsException
                getInt(3, 2, 0) ! IllegalStateException
                getInt(2, 2, 0) ! ArithmeticException
                """);
        script.run("getReference: transaction, object, field, lock, kind", FULL + """
                getReference(3, 3, 1) ! NoSuchElementException
                getReference(3, 2, 1) ! NoSuchElementException
                getReference(3, 2, 0) ! NoSuchElementException
                getReference(1, 3, 1) ! NoSuchElementException
                getReference(1, 3, 0) ! NoSuchElementException
                getReference(1, 2, 1) ! IndexOutOfBoundsException
                getReference(1, 2, 0) ! IllegalStateException
                getReference(1, 1, 0) ! ArithmeticException
                getReference(2, 2, 0) ! ArithmeticException
                """);
        script.run("getRoot: transaction, root, lock", FULL + """
                getRoot(3, 4) ! NoSuchElementException
                getRoot(3, 2) ! NoSuchElementException
                getRoot(1, 4) ! IndexOutOfBoundsException
                getRoot(1, 2) ! IllegalStateException
                getRoot(1, 1) = 0
                """);
    }

    private static void commit(HeapScript script) {
        script.run("commit: transaction, log", FULL + """
                commit(3) ! NoSuchElementException
                commit(0) ! NoSuchElementException
                commit(1) ! UnsupportedOperationException
                commit(2) ! UnsupportedOperationException
                abort(2) = 2
                commit(2) ! NoSuchElementException
                commit(1) = 1
                """);
    }
}
