/** Promises 2 (begin), 10 (commit) and 11 (abort), and the locks. */
public final class TransactionTest {
    public static void main(String[] arguments) {
        HeapScript script = new HeapScript();
        begin(script);
        commit(script);
        abort(script);
        locks(script);
        script.finish();
    }

    private static void begin(HeapScript script) {
        script.run("2: numbers rise, three are active at most", """
                begin() = 1
                begin() = 2
                begin() = 3
                begin() ! IllegalStateException
                counts = 0 0 0 3 3 3 0 0
                commit(2) = 0
                begin() = 4
                begin() ! IllegalStateException
                abort(4) = 0
                begin() = 5
                crash() = 3
                begin() = 6
                counts = 0 0 0 1 1 6 0 0
                """);
        script.run("2: a beginning needs one word of the log", """
                begin() = 1
                make(1, 1) = 1
                48 * setInt(1, 1, 0, 7) = 1
                count(3) = 147
                begin() = 2
                begin() = 3
                count(3) = 149
                commit(3) = 0
                count(3) = 150
                begin() ! UnsupportedOperationException
                count(5) = 3
                checkpoint() = 148
                begin() = 4
                abort(2) = 0
                begin() = 5
                """);
        script.run("2: that three are active is told before that the log is full", """
                begin() = 1
                begin() = 2
                begin() = 3
                49 * setRoot(1, 0, 0) = 1
                count(3) = 150
                begin() ! IllegalStateException
                """);
    }

    private static void commit(HeapScript script) {
        script.run("10: what was set stays, the locks are counted and go", """
                begin() = 1
                make(1, 2) = 1
                make(1, 0) = 2
                setInt(1, 1, 0, 5) = 1
                setInt(1, 1, 0, 6) = 1
                setReference(1, 1, 1, 2) = 1
                setRoot(1, 3, 1) = 1
                getRoot(1, 0) = 0
                commit(1) = 4
                counts = 2 2 4 18 0 1 0 2
                lockedBy(1, 0) = 0
                lockedBy(2, 0) = 0
                lockedBy(0, 0) = 0
                lockedBy(0, 3) = 0
                crash() = 0
                begin() = 2
                getInt(2, 1, 0) = 6
                getReference(2, 1, 1) = 2
                getRoot(2, 3) = 1
                commit(2) = 2
                """);
        script.run("10: only an active transaction commits", """
                commit(1) ! NoSuchElementException
                commit(0) ! NoSuchElementException
                commit(-1) ! NoSuchElementException
                begin() = 1
                commit(2) ! NoSuchElementException
                commit(1) = 0
                commit(1) ! NoSuchElementException
                begin() = 2
                abort(2) = 0
                commit(2) ! NoSuchElementException
                begin() = 3
                crash() = 1
                commit(3) ! NoSuchElementException
                commit(-2147483648) ! NoSuchElementException
                commit(2147483647) ! NoSuchElementException
                """);
        script.run("10: an end needs one word of the log", """
                begin() = 1
                begin() = 2
                make(1, 1) = 1
                48 * setInt(1, 1, 0, 7) = 1
                setInt(1, 1, 0, 8) ! UnsupportedOperationException
                count(3) = 148
                begin() = 3
                commit(2) = 0
                commit(1) ! UnsupportedOperationException
                lockedBy(1, 0) = 1
                count(4) = 2
                checkpoint() = 148
                commit(1) = 1
                count(3) = 149
                checkpoint() = 1
                begin() = 4
                getInt(4, 1, 0) = 7
                """);
        script.run("10: a full log does not hide that a transaction is not active", """
                begin() = 1
                begin() = 2
                make(1, 1) = 1
                48 * setInt(1, 1, 0, 7) = 1
                begin() = 3
                commit(3) = 0
                commit(3) ! NoSuchElementException
                commit(2) ! UnsupportedOperationException
                """);
        script.run("10: what a commit has kept an abort of a later one does not take back", """
                begin() = 1
                make(1, 1) = 1
                setInt(1, 1, 0, 5) = 1
                setRoot(1, 0, 1) = 1
                commit(1) = 2
                begin() = 2
                setInt(2, 1, 0, 6) = 1
                commit(2) = 1
                begin() = 3
                setInt(3, 1, 0, 7) = 1
                setInt(3, 1, 0, 8) = 1
                setRoot(3, 0, 0) = 1
                abort(3) = 2
                begin() = 4
                getInt(4, 1, 0) = 6
                getRoot(4, 0) = 1
                """);
    }

    private static void abort(HeapScript script) {
        script.run("11: what was set is taken back, kinds too, and the records leave the log", """
                begin() = 1
                make(1, 3) = 1
                make(1, 0) = 2
                setInt(1, 1, 0, 5) = 1
                setReference(1, 1, 1, 2) = 1
                setReference(1, 1, 2, 0) = 1
                setRoot(1, 0, 1) = 1
                commit(1) = 3
                count(3) = 18
                begin() = 2
                setReference(2, 1, 0, 2) = 1
                setInt(2, 1, 0, 9) = 1
                setInt(2, 1, 1, 9) = 1
                setInt(2, 1, 2, 9) = 1
                setRoot(2, 0, 2) = 1
                setRoot(2, 1, 2) = 1
                setRoot(2, 0, 0) = 1
                count(3) = 40
                abort(2) = 3
                counts = 2 2 5 18 0 2 0 2
                lockedBy(1, 0) = 0
                lockedBy(0, 0) = 0
                begin() = 3
                getInt(3, 1, 0) = 5
                getReference(3, 1, 1) = 2
                getReference(3, 1, 2) = 0
                getRoot(3, 0) = 1
                getRoot(3, 1) = 0
                """);
        script.run("11: what it made stays, with its fields as they were made, and is not held", """
                begin() = 1
                make(1, 2) = 1
                make(1, 1) = 2
                setInt(1, 1, 0, 5) = 1
                setReference(1, 1, 1, 2) = 1
                setReference(1, 2, 0, 1) = 1
                count(7) = 2
                abort(1) = 2
                counts = 2 2 5 0 0 1 0 0
                fields(1) = 2
                begin() = 2
                getInt(2, 1, 0) = 0
                getInt(2, 1, 1) = 0
                getInt(2, 2, 0) = 0
                setRoot(2, 0, 2) = 1
                commit(2) = 3
                collect(-1) = 3
                fields(2) = 1
                fields(1) ! NoSuchElementException
                """);
        script.run("11: only an active transaction aborts", """
                abort(1) ! NoSuchElementException
                abort(0) ! NoSuchElementException
                abort(-1) ! NoSuchElementException
                begin() = 1
                begin() = 2
                abort(3) ! NoSuchElementException
                abort(1) = 0
                abort(1) ! NoSuchElementException
                commit(2) = 0
                abort(2) ! NoSuchElementException
                """);
        script.run("11: an abort needs no room in the log and takes only its own records", """
                begin() = 1
                make(1, 1) = 1
                begin() = 2
                make(2, 1) = 2
                47 * setInt(1, 1, 0, 7) = 1
                setInt(2, 2, 0, 4) = 1
                count(3) = 150
                commit(2) ! UnsupportedOperationException
                abort(2) = 1
                count(3) = 144
                lockedBy(2, 0) = 0
                abort(1) = 1
                count(3) = 0
                begin() = 3
                getInt(3, 2, 0) = 0
                getInt(3, 1, 0) = 0
                """);
        script.run("11: an abort leaves what others set", """
                begin() = 1
                begin() = 2
                make(1, 1) = 1
                make(2, 1) = 2
                setInt(1, 1, 0, 5) = 1
                setInt(2, 2, 0, 6) = 1
                setRoot(1, 0, 1) = 1
                setRoot(2, 1, 2) = 1
                abort(1) = 2
                getInt(2, 2, 0) = 6
                getRoot(2, 1) = 2
                lockedBy(2, 0) = 2
                commit(2) = 2
                count(3) = 10
                begin() = 3
                getRoot(3, 0) = 0
                getInt(3, 1, 0) = 0
                """);
    }

    private static void locks(HeapScript script) {
        script.run("a lock is there from the first use until the end, and once", """
                begin() = 1
                begin() = 2
                make(1, 2) = 1
                commit(1) = 1
                begin() = 3
                getInt(3, 1, 0) = 0
                getInt(3, 1, 1) = 0
                setInt(3, 1, 1, 2) = 1
                getInt(2, 1, 0) ! IllegalStateException
                getReference(2, 1, 0) ! IllegalStateException
                setInt(2, 1, 0, 1) ! IllegalStateException
                setReference(2, 1, 0, 1) ! IllegalStateException
                getRoot(3, 2) = 0
                getRoot(2, 2) ! IllegalStateException
                setRoot(2, 2, 0) ! IllegalStateException
                commit(3) = 2
                setRoot(2, 2, 1) = 1
                getInt(2, 1, 1) = 2
                commit(2) = 2
                """);
        script.run("a target is not locked, neither set nor read", """
                begin() = 1
                begin() = 2
                make(1, 1) = 1
                make(1, 1) = 2
                commit(1) = 2
                begin() = 3
                setReference(3, 1, 0, 2) = 1
                setRoot(3, 0, 2) = 1
                lockedBy(2, 0) = 0
                getReference(3, 1, 0) = 2
                getRoot(3, 0) = 2
                lockedBy(2, 0) = 0
                setInt(2, 2, 0, 4) = 1
                # what another has locked may be referred to
                setRoot(3, 1, 2) = 1
                setReference(3, 1, 0, 2) = 1
                setReference(2, 2, 0, 1) = 1
                commit(3) = 3
                commit(2) = 1
                """);
    }
}
