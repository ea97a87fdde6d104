/** Promises 7 (getInt), 8 (getReference) and 9 (getRoot). */
public final class ReadTest {
    public static void main(String[] arguments) {
        HeapScript script = new HeapScript();
        fields(script);
        roots(script);
        fullLog(script);
        script.finish();
    }

    private static void fields(HeapScript script) {
        script.run("7 and 8: a wrong kind throws, and locks all the same", """
                begin() = 1
                make(1, 2) = 1
                make(1, 2) = 2
                setReference(1, 1, 0, 0) = 1
                setReference(1, 2, 0, 1) = 1
                commit(1) = 2
                begin() = 2
                getInt(2, 1, 0) ! ArithmeticException
                lockedBy(1, 0) = 2
                getInt(2, 2, 0) ! ArithmeticException
                getReference(2, 2, 1) ! ArithmeticException
                begin() = 3
                getReference(3, 1, 0) ! IllegalStateException
                commit(2) = 2
                getReference(3, 1, 1) ! ArithmeticException
                lockedBy(1, 0) = 3
                getReference(3, 1, 0) = 0
                getReference(3, 2, 0) = 1
                getInt(3, 2, 1) = 0
                count(3) = 15
                commit(3) = 2
                """);
        script.run("7: what is thrown, in the order of testing", """
                getInt(1, 1, 0) ! NoSuchElementException
                begin() = 1
                begin() = 2
                getInt(1, 1, 0) ! NoSuchElementException
                getInt(1, 0, 0) ! NoSuchElementException
                make(1, 2) = 1
                setReference(1, 1, 0, 1) = 1
                getInt(1, 1, 2) ! IndexOutOfBoundsException
                getInt(1, 1, -1) ! IndexOutOfBoundsException
                getInt(2, 1, 2) ! IndexOutOfBoundsException
                getInt(2, 1, 0) ! IllegalStateException
                getInt(3, 1, 0) ! NoSuchElementException
                abort(1) = 1
                getInt(1, 1, 0) ! NoSuchElementException
                getInt(2, 1, 0) = 0
                abort(2) = 1
                collect(-1) = 3
                begin() = 3
                getInt(3, 1, 0) ! NoSuchElementException
                """);
        script.run("8: what is thrown, in the order of testing", """
                getReference(1, 1, 0) ! NoSuchElementException
                begin() = 1
                begin() = 2
                getReference(1, 1, 0) ! NoSuchElementException
                getReference(1, -1, 0) ! NoSuchElementException
                make(1, 2) = 1
                getReference(1, 1, 2) ! IndexOutOfBoundsException
                getReference(1, 1, -1) ! IndexOutOfBoundsException
                getReference(2, 1, 2) ! IndexOutOfBoundsException
                getReference(2, 1, 0) ! IllegalStateException
                getReference(3, 1, 0) ! NoSuchElementException
                getReference(1, 1, 0) ! ArithmeticException
                abort(1) = 1
                collect(-1) = 3
                getReference(2, 1, 0) ! NoSuchElementException
                """);
    }

    private static void roots(HeapScript script) {
        script.run("9: none at first, locked by the reading", """
                begin() = 1
                getRoot(1, 0) = 0
                getRoot(1, 3) = 0
                lockedBy(0, 0) = 1
                lockedBy(0, 1) = 0
                lockedBy(0, 3) = 1
                count(3) = 1
                make(1, 0) = 1
                setRoot(1, 1, 1) = 1
                getRoot(1, 1) = 1
                commit(1) = 4
                begin() = 2
                getRoot(2, 1) = 1
                lockedBy(1, 0) = 0
                abort(2) = 1
                """);
        script.run("9: what is thrown, in the order of testing", """
                getRoot(1, 0) ! NoSuchElementException
                getRoot(1, 4) ! NoSuchElementException
                begin() = 1
                begin() = 2
                getRoot(1, 4) ! IndexOutOfBoundsException
                getRoot(1, -1) ! IndexOutOfBoundsException
                getRoot(1, 2) = 0
                getRoot(2, 2) ! IllegalStateException
                getRoot(2, 5) ! IndexOutOfBoundsException
                getRoot(3, 2) ! NoSuchElementException
                crash() = 2
                getRoot(1, 2) ! NoSuchElementException
                """);
    }

    private static void fullLog(HeapScript script) {
        script.run("7, 8 and 9: reading needs no room in the log", """
                begin() = 1
                make(1, 2) = 1
                setReference(1, 1, 1, 1) = 1
                setRoot(1, 0, 1) = 1
                commit(1) = 2
                begin() = 2
                46 * setInt(2, 1, 0, 3) = 1
                count(3) = 149
                commit(2) = 1
                checkpoint() = 0
                begin() = 3
                49 * setRoot(3, 1, 0) = 1
                begin() = 4
                begin() = 5
                count(3) = 150
                getInt(4, 1, 0) = 3
                getReference(4, 1, 1) = 1
                getRoot(4, 0) = 1
                lockedBy(1, 0) = 4
                count(3) = 150
                """);
    }
}
