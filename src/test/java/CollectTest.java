/** Promise 14 (collect), and what is held. */
public final class CollectTest {
    public static void main(String[] arguments) {
        HeapScript script = new HeapScript();
        whatIsHeld(script);
        heldBecauseOfSets(script);
        flip(script);
        cutOff(script);
        script.finish();
    }

    private static void whatIsHeld(HeapScript script) {
        script.run("held: by roots, through fields, in rings; the rest goes", """
                begin() = 1
                make(1, 2) = 1
                make(1, 1) = 2
                make(1, 1) = 3
                make(1, 0) = 4
                make(1, 1) = 5
                make(1, 1) = 6
                setRoot(1, 2, 1) = 1
                setReference(1, 1, 0, 2) = 1
                setReference(1, 1, 1, 1) = 1
                setReference(1, 2, 0, 3) = 1
                setReference(1, 3, 0, 1) = 1
                # a ring that nothing holds
                setReference(1, 5, 0, 6) = 1
                setReference(1, 6, 0, 5) = 1
                count(7) = 6
                commit(1) = 7
                count(7) = 3
                collect(-1) = 5
                counts = 3 6 7 0 0 1 1 3
                fields(3) = 1
                fields(4) ! NoSuchElementException
                fields(5) ! NoSuchElementException
                lockedBy(6, 0) ! NoSuchElementException
                begin() = 2
                getReference(2, 3, 0) = 1
                getReference(2, 1, 0) = 2
                """);
        script.run("held: an int that looks like a handle holds nothing", """
                begin() = 1
                make(1, 1) = 1
                make(1, 0) = 2
                setReference(1, 1, 0, 2) = 1
                setInt(1, 1, 0, 2) = 1
                setRoot(1, 0, 1) = 1
                commit(1) = 3
                count(7) = 1
                collect(-1) = 1
                fields(2) ! NoSuchElementException
                """);
        script.run("held: what is locked, only read too, with what its fields refer to", """
                begin() = 1
                make(1, 1) = 1
                make(1, 0) = 2
                make(1, 1) = 3
                setReference(1, 1, 0, 2) = 1
                commit(1) = 3
                count(7) = 0
                begin() = 2
                getInt(2, 1, 0) ! ArithmeticException
                count(7) = 2
                collect(-1) = 2
                fields(2) = 0
                fields(3) ! NoSuchElementException
                lockedBy(1, 0) = 2
                commit(2) = 1
                collect(-1) = 3
                counts = 0 3 0 0 0 2 2 0
                """);
    }

    private static void heldBecauseOfSets(HeapScript script) {
        script.run("held: what a root was to before the first set, until the end", """
                begin() = 1
                make(1, 1) = 1
                make(1, 0) = 2
                make(1, 0) = 3
                make(1, 0) = 4
                setReference(1, 1, 0, 2) = 1
                setRoot(1, 0, 1) = 1
                commit(1) = 5
                begin() = 2
                setRoot(2, 0, 3) = 1
                count(7) = 3
                setRoot(2, 0, 4) = 1
                count(7) = 3
                setRoot(2, 0, 0) = 1
                count(7) = 2
                collect(-1) = 2
                setRoot(2, 0, 3) ! IllegalArgumentException
                abort(2) = 1
                begin() = 3
                getRoot(3, 0) = 1
                getReference(3, 1, 0) = 2
                setRoot(3, 0, 0) = 1
                commit(3) = 2
                count(7) = 0
                collect(-1) = 3
                """);
        script.run("held: what fields were to, set to an int or another, until the end", """
                begin() = 1
                make(1, 2) = 1
                make(1, 0) = 2
                make(1, 0) = 3
                make(1, 0) = 4
                setReference(1, 1, 0, 2) = 1
                setReference(1, 1, 1, 3) = 1
                setRoot(1, 0, 1) = 1
                commit(1) = 5
                count(7) = 3
                begin() = 2
                setInt(2, 1, 0, 7) = 1
                setReference(2, 1, 1, 4) = 1
                setReference(2, 1, 1, 0) = 1
                count(7) = 3
                collect(-1) = 1
                commit(2) = 1
                count(7) = 1
                collect(-1) = 2
                begin() = 3
                getInt(3, 1, 0) = 7
                getReference(3, 1, 1) = 0
                """);
        script.run("held: an abort behind a collection brings back what was referred to", """
                begin() = 1
                make(1, 1) = 1
                make(1, 1) = 2
                make(1, 0) = 3
                setReference(1, 1, 0, 2) = 1
                setReference(1, 2, 0, 3) = 1
                setRoot(1, 0, 1) = 1
                commit(1) = 4
                begin() = 2
                setReference(2, 1, 0, 0) = 1
                setRoot(2, 0, 0) = 1
                collect(3) = 0
                collect(2) = -2
                begin() = 3
                getRoot(3, 0) = 1
                getReference(3, 1, 0) = 2
                getReference(3, 2, 0) = 3
                """);
        script.run("held: what an aborted transaction made and referred to is not held by it", """
                begin() = 1
                make(1, 1) = 1
                make(1, 1) = 2
                setRoot(1, 0, 1) = 1
                setReference(1, 1, 0, 2) = 1
                count(7) = 2
                abort(1) = 3
                count(7) = 0
                counts = 2 2 4 0 0 1 0 0
                collect(0) = 4
                counts = 0 2 0 0 0 1 1 0
                """);
    }

    private static void flip(HeapScript script) {
        script.run("14: a flip with nothing there, and with nothing to go", """
                collect(0) = 0
                collect(-1) = 0
                collect(2147483647) = 0
                counts = 0 0 0 0 0 0 3 0
                begin() = 1
                make(1, 4) = 1
                collect(-2147483648) = 0
                counts = 1 1 5 3 1 1 4 1
                """);
        script.run("14: a checkpoint comes with the flip, and locks stay", """
                begin() = 1
                make(1, 1) = 1
                make(1, 3) = 2
                setRoot(1, 0, 1) = 1
                commit(1) = 3
                begin() = 2
                setInt(2, 1, 0, 5) = 1
                count(3) = 13
                collect(1) = 4
                count(3) = 4
                lockedBy(1, 0) = 2
                begin() = 3
                setInt(3, 1, 0, 6) ! IllegalStateException
                setInt(2, 1, 0, 8) = 1
                abort(2) = 1
                getInt(3, 1, 0) = 0
                make(3, 2) = 3
                counts = 2 3 5 3 1 3 1 2
                """);
        script.run("14: space that a flip frees is there for others, older and newer ones stay apart", """
                begin() = 1
                16 * make(1, 4) = 1 ..
                setRoot(1, 0, 2) = 1
                setRoot(1, 1, 9) = 1
                setReference(1, 9, 0, 16) = 1
                setInt(1, 16, 3, 6) = 1
                commit(1) = 18
                collect(3) = 65
                begin() = 2
                13 * make(2, 4) = 17 ..
                make(2, 0) ! IllegalStateException
                setInt(2, 17, 3, 7) = 1
                getInt(2, 16, 3) = 6
                getReference(2, 9, 0) = 16
                fields(1) ! NoSuchElementException
                fields(10) ! NoSuchElementException
                fields(29) = 4
                commit(2) = 15
                collect(-1) = 65
                counts = 3 29 15 0 0 2 2 3
                """);
    }

    private static void cutOff(HeapScript script) {
        script.run("14: cut off below the number of held objects, not at it", """
                begin() = 1
                make(1, 1) = 1
                make(1, 1) = 2
                make(1, 2) = 3
                setRoot(1, 0, 1) = 1
                setReference(1, 1, 0, 2) = 1
                commit(1) = 4
                collect(0) = -1
                counts = 3 3 7 0 0 1 0 2
                begin() = 2
                setInt(2, 1, 0, 5) = 1
                begin() = 3
                getRoot(3, 3) = 0
                collect(1) = -3
                counts = 3 3 7 0 0 3 0 2
                lockedBy(1, 0) = 0
                lockedBy(0, 3) = 0
                begin() = 4
                getReference(4, 1, 0) = 2
                collect(2) = 3
                counts = 2 3 4 1 1 4 1 2
                fields(3) ! NoSuchElementException
                """);
        script.run("14: held is counted before the crash that cuts off", """
                begin() = 1
                begin() = 2
                begin() = 3
                3 * make(1, 1) = 1 ..
                setInt(1, 1, 0, 7) = 1
                collect(2) = -4
                counts = 3 3 6 0 0 3 0 0
                commit(1) ! NoSuchElementException
                begin() = 4
                getInt(4, 1, 0) = 0
                collect(1) = 4
                """);
    }
}
