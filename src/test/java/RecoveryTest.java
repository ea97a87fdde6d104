/** Promises 12 (checkpoint) and 13 (crash). */
public final class RecoveryTest {
    public static void main(String[] arguments) {
        HeapScript script = new HeapScript();
        checkpoint(script);
        crash(script);
        script.finish();
    }

    private static void checkpoint(HeapScript script) {
        script.run("12: the records of the active ones stay, all of them", """
                checkpoint() = 0
                begin() = 1
                begin() = 2
                make(1, 1) = 1
                setInt(1, 1, 0, 5) = 1
                make(2, 1) = 2
                setRoot(2, 0, 2) = 1
                checkpoint() = 12
                commit(1) = 1
                count(3) = 13
                checkpoint() = 6
                checkpoint() = 6
                counts = 2 2 4 6 1 2 0 1
                setRoot(2, 1, 2) = 1
                count(3) = 9
                abort(2) = 3
                count(3) = 0
                begin() = 3
                getInt(3, 1, 0) = 5
                getInt(3, 2, 0) = 0
                getRoot(3, 0) = 0
                """);
        script.run("12: an abort behind a checkpoint takes back what was set before it", """
                begin() = 1
                make(1, 1) = 1
                setInt(1, 1, 0, 5) = 1
                commit(1) = 1
                begin() = 2
                setInt(2, 1, 0, 6) = 1
                count(3) = 11
                checkpoint() = 4
                setInt(2, 1, 0, 7) = 1
                lockedBy(1, 0) = 2
                abort(2) = 1
                count(3) = 0
                begin() = 3
                getInt(3, 1, 0) = 5
                """);
        script.run("12: what was committed before a checkpoint survives a crash behind it", """
                begin() = 1
                make(1, 1) = 1
                setInt(1, 1, 0, 5) = 1
                setRoot(1, 0, 1) = 1
                commit(1) = 2
                checkpoint() = 0
                crash() = 0
                begin() = 2
                getRoot(2, 0) = 1
                getInt(2, 1, 0) = 5
                """);
    }

    private static void crash(HeapScript script) {
        script.run("13: all active ones are aborted, the log is empty, what was committed stays", """
                crash() = 0
                begin() = 1
                make(1, 2) = 1
                setInt(1, 1, 0, 5) = 1
                setRoot(1, 0, 1) = 1
                commit(1) = 2
                begin() = 2
                begin() = 3
                begin() = 4
                setInt(2, 1, 0, 6) = 1
                setReference(2, 1, 1, 1) = 1
                setRoot(3, 0, 0) = 1
                setRoot(3, 1, 1) = 1
                make(4, 1) = 2
                setInt(4, 2, 0, 9) = 1
                count(3) = 30
                crash() = 3
                counts = 2 2 5 0 0 4 0 1
                lockedBy(1, 0) = 0
                lockedBy(2, 0) = 0
                lockedBy(0, 0) = 0
                lockedBy(0, 1) = 0
                commit(2) ! NoSuchElementException
                abort(3) ! NoSuchElementException
                getInt(4, 2, 0) ! NoSuchElementException
                begin() = 5
                getInt(5, 1, 0) = 5
                getInt(5, 1, 1) = 0
                getInt(5, 2, 0) = 0
                getRoot(5, 0) = 1
                getRoot(5, 1) = 0
                commit(5) = 4
                crash() = 0
                count(3) = 0
                """);
        script.run("13: the log is empty also of what had ended", """
                begin() = 1
                make(1, 1) = 1
                48 * setInt(1, 1, 0, 5) = 1
                begin() = 2
                commit(1) = 1
                count(3) = 149
                crash() = 1
                count(3) = 0
                begin() = 3
                48 * setInt(3, 1, 0, 6) = 1
                crash() = 1
                begin() = 4
                getInt(4, 1, 0) = 5
                """);
    }
}
