/** Where a lock begins and where it ends, how locks are counted, and how many transactions can be active. */
public final class LockBoundTest {
    // Nothing is locked: object 1 has an int and a reference, root 1 is to object 2.
    private static final String UNLOCKED = """
            begin() = 1
            make(1, 2) = 1
            make(1, 1) = 2
            setReference(1, 1, 1, 2) = 1
            setRoot(1, 1, 2) = 1
            commit(1) = 3
            begin() = 2
            begin() = 3
            lockedBy(1, 0) = 0
            lockedBy(0, 1) = 0
            """;

    public static void main(String[] arguments) {
        HeapScript script = new HeapScript();
        firstCall(script);
        refused(script);
        targets(script);
        until(script);
        counted(script);
        atMostThree(script);
        script.finish();
    }

    private static void firstCall(HeapScript script) {
        String[] onObject = {
            "setInt(2, 1, 0, 7) = 1", "setReference(2, 1, 0, 2) = 1", "setReference(2, 1, 0, 0) = 1",
            "getInt(2, 1, 0) = 0", "getReference(2, 1, 1) = 2", "getInt(2, 1, 1) ! ArithmeticException",
            "getReference(2, 1, 0) ! ArithmeticException",
        };
        for (String call : onObject) {
            script.run("locked from the first call on: " + call, UNLOCKED + call + """

                    lockedBy(1, 0) = 2
                    lockedBy(2, 0) = 0
                    getInt(3, 1, 0) ! IllegalStateException
                    getReference(3, 1, 0) ! IllegalStateException
                    getReference(3, 1, 1) ! IllegalStateException
                    setInt(3, 1, 1, 7) ! IllegalStateException
                    setReference(3, 1, 1, 0) ! IllegalStateException
                    lockedBy(1, 0) = 2
                    setInt(2, 1, 1, 7) = 1
                    commit(2) = 1
                    setInt(3, 1, 1, 7) = 1
                    lockedBy(1, 0) = 3
                    """);
        }
        String[] onRoot = {"setRoot(2, 1, 1) = 1", "setRoot(2, 1, 0) = 1", "getRoot(2, 1) = 2"};
        for (String call : onRoot) {
            script.run("locked from the first call on: " + call, UNLOCKED + call + """

                    lockedBy(0, 1) = 2
                    lockedBy(0, 0) = 0
                    lockedBy(0, 2) = 0
                    getRoot(3, 1) ! IllegalStateException
                    setRoot(3, 1, 0) ! IllegalStateException
                    getRoot(3, 2) = 0
                    setRoot(2, 1, 0) = 1
                    commit(2) = 1
                    getRoot(3, 1) = 0
                    lockedBy(0, 1) = 3
                    """);
        }
        script.run("locked from the first call on: by its maker", UNLOCKED + """
                make(2, 1) = 3
                lockedBy(3, 0) = 2
                getInt(3, 3, 0) ! IllegalStateException
                getReference(3, 3, 0) ! IllegalStateException
                setInt(3, 3, 0, 0) ! IllegalStateException
                setReference(3, 3, 0, 0) ! IllegalStateException
                commit(2) = 1
                getInt(3, 3, 0) = 0
                """);
    }

    private static void refused(HeapScript script) {
        script.run("a call that throws locks nothing", UNLOCKED + """
                getInt(2, 1, 2) ! IndexOutOfBoundsException
                getReference(2, 1, -1) ! IndexOutOfBoundsException
                setInt(2, 1, 2, 7) ! IndexOutOfBoundsException
                setReference(2, 1, 2, 1) ! IndexOutOfBoundsException
                setReference(2, 1, 0, 3) ! IllegalArgumentException
                setRoot(2, 1, 3) ! IllegalArgumentException
                make(2, 5) ! IllegalArgumentException
                lockedBy(1, 0) = 0
                lockedBy(0, 1) = 0
                setInt(3, 1, 0, 7) = 1
                setRoot(3, 1, 1) = 1
                commit(2) = 0
                commit(3) = 2
                """);
        script.run("a call that throws because another has the lock leaves it to that one", UNLOCKED + """
                getInt(3, 1, 0) = 0
                getRoot(3, 1) = 2
                getInt(2, 1, 0) ! IllegalStateException
                getRoot(2, 1) ! IllegalStateException
                lockedBy(1, 0) = 3
                lockedBy(0, 1) = 3
                abort(2) = 0
                lockedBy(1, 0) = 3
                lockedBy(0, 1) = 3
                abort(3) = 2
                """);
        script.run("an object without fields is locked by its maker alone: no other call can name a field of it", """
                begin() = 1
                make(1, 0) = 1
                commit(1) = 1
                begin() = 2
                getInt(2, 1, 0) ! IndexOutOfBoundsException
                getReference(2, 1, 0) ! IndexOutOfBoundsException
                setInt(2, 1, 0, 0) ! IndexOutOfBoundsException
                setReference(2, 1, 0, 0) ! IndexOutOfBoundsException
                lockedBy(1, 0) = 0
                commit(2) = 0
                """);
    }

    private static void targets(HeapScript script) {
        script.run("a reference that is read does not lock what it is to", UNLOCKED + """
                getReference(2, 1, 1) = 2
                getRoot(2, 1) = 2
                lockedBy(2, 0) = 0
                setInt(3, 2, 0, 5) = 1
                lockedBy(2, 0) = 3
                commit(2) = 2
                commit(3) = 1
                """);
        script.run("a reference that is set does not lock what it is to, nor what it was to", UNLOCKED + """
                setReference(2, 1, 1, 1) = 1
                setRoot(2, 1, 1) = 1
                setRoot(2, 0, 2) = 1
                lockedBy(2, 0) = 0
                setReference(3, 2, 0, 2) = 1
                commit(2) = 3
                commit(3) = 1
                """);
        script.run("a reference may be set to what another has locked", UNLOCKED + """
                setInt(3, 2, 0, 5) = 1
                setReference(2, 1, 0, 2) = 1
                setRoot(2, 0, 2) = 1
                getReference(2, 1, 0) = 2
                lockedBy(2, 0) = 3
                make(3, 0) = 3
                setRoot(2, 3, 3) = 1
                abort(3) = 2
                commit(2) = 3
                count(7) = 2
                """);
    }

    private static void until(HeapScript script) {
        String locked = UNLOCKED + """
                setInt(2, 1, 0, 7) = 1
                setRoot(2, 1, 1) = 1
                make(2, 1) = 3
                """;
        String free = """
                lockedBy(1, 0) = 0
                lockedBy(3, 0) = 0
                lockedBy(0, 1) = 0
                """;
        String still = """
                lockedBy(1, 0) = 2
                lockedBy(3, 0) = 2
                lockedBy(0, 1) = 2
                getInt(3, 1, 0) ! IllegalStateException
                getRoot(3, 1) ! IllegalStateException
                """;
        script.run("until the transaction is over: committed", locked + "commit(2) = 3\n" + free);
        script.run("until the transaction is over: aborted", locked + "abort(2) = 3\n" + free);
        script.run("until the transaction is over: by a crash", locked + "crash() = 2\n" + free);
        script.run("until the transaction is over: by a collection cut off", locked + "collect(2) = -3\n" + free);
        script.run("until then: another's commit", locked + "commit(3) = 0\nbegin() = 4\ncommit(4) = 0\nbegin() = 5\n"
                + still.replace("(3, 1", "(5, 1"));
        script.run("until then: another's abort", locked + "abort(3) = 0\nbegin() = 4\n" + still.replace("(3, 1", "(4, 1"));
        script.run("until then: a checkpoint", locked + "checkpoint() = 10\n" + still);
        script.run("until then: a collection", locked + "collect(3) = 0\n" + still);
    }

    private static void counted(HeapScript script) {
        script.run("how many objects and roots it had locked: none", """
                begin() = 1
                commit(1) = 0
                begin() = 2
                abort(2) = 0
                """);
        String all = """
                begin() = 1
                12 * make(1, 1) = 1 ..
                getRoot(1, 0) = 0
                getRoot(1, 1) = 0
                setRoot(1, 2, 1) = 1
                setRoot(1, 3, 2) = 1
                """;
        script.run("how many it had locked: every root and object, committed", all + "commit(1) = 16\n");
        script.run("how many it had locked: every root and object, aborted", all + "abort(1) = 16\n");
        script.run("how many it had locked: each once, its own alone, and none of an earlier one", """
                begin() = 1
                begin() = 2
                make(1, 2) = 1
                make(2, 1) = 2
                setInt(1, 1, 0, 1) = 1
                setInt(1, 1, 1, 1) = 1
                getInt(1, 1, 0) = 1
                getRoot(1, 0) = 0
                getRoot(1, 0) = 0
                setRoot(1, 0, 1) = 1
                getRoot(2, 1) = 0
                commit(1) = 2
                getInt(2, 1, 1) = 1
                abort(2) = 3
                begin() = 3
                getInt(3, 2, 0) = 0
                commit(3) = 1
                """);
    }

    private static void atMostThree(HeapScript script) {
        script.run("at most 3 are active: a fourth is refused, and takes no number", """
                begin() = 1
                begin() = 2
                begin() = 3
                4 * begin() ! IllegalStateException
                counts = 0 0 0 3 3 3 0 0
                abort(1) = 0
                begin() = 4
                begin() ! IllegalStateException
                commit(3) = 0
                begin() = 5
                begin() ! IllegalStateException
                collect(-1) = 0
                begin() ! IllegalStateException
                checkpoint() = 3
                begin() ! IllegalStateException
                crash() = 3
                begin() = 6
                begin() = 7
                begin() = 8
                begin() ! IllegalStateException
                """);
        script.run("transactions are numbered as they begin, not by what became free", """
                begin() = 1
                begin() = 2
                begin() = 3
                make(2, 1) = 1
                abort(1) = 0
                commit(3) = 0
                begin() = 4
                begin() = 5
                commit(3) ! NoSuchElementException
                abort(1) ! NoSuchElementException
                lockedBy(1, 0) = 2
                make(4, 1) = 2
                make(5, 1) = 3
                lockedBy(2, 0) = 4
                lockedBy(3, 0) = 5
                commit(2) = 1
                commit(5) = 1
                commit(4) = 1
                counts = 3 3 6 14 0 5 0 0
                """);
    }
}
