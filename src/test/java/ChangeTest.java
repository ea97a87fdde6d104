/** Promises 3 (make), 4 (setInt), 5 (setReference) and 6 (setRoot). */
public final class ChangeTest {
    public static void main(String[] arguments) {
        HeapScript script = new HeapScript();
        make(script);
        makeWithoutRoom(script);
        setInt(script);
        setReference(script);
        setRoot(script);
        script.finish();
    }

    private static void make(HeapScript script) {
        script.run("3: handles rise, fields are ints 0, the maker has the lock", """
                begin() = 1
                begin() = 2
                make(1, 0) = 1
                make(2, 4) = 2
                make(1, 1) = 3
                counts = 3 3 8 8 2 2 0 3
                lockedBy(1, 0) = 1
                lockedBy(2, 0) = 2
                lockedBy(3, 0) = 1
                fields(1) = 0
                fields(2) = 4
                getInt(2, 2, 0) = 0
                getInt(2, 2, 3) = 0
                getReference(2, 2, 1) ! ArithmeticException
                commit(1) = 2
                commit(2) = 1
                """);
        script.run("3: wrong transactions, then wrong numbers of fields", """
                make(1, 0) ! NoSuchElementException
                make(0, 9) ! NoSuchElementException
                begin() = 1
                make(1, -1) ! IllegalArgumentException
                make(1, 5) ! IllegalArgumentException
                make(1, 2147483647) ! IllegalArgumentException
                make(1, -2147483648) ! IllegalArgumentException
                make(2, 5) ! NoSuchElementException
                make(1, 4) = 1
                """);
        script.run("3: a handle is never given again", """
                begin() = 1
                make(1, 0) = 1
                make(1, 0) = 2
                abort(1) = 2
                collect(-1) = 2
                begin() = 2
                make(2, 0) = 3
                crash() = 1
                begin() = 3
                make(3, 1) = 4
                counts = 2 4 3 3 1 3 1 1
                """);
    }

    private static void makeWithoutRoom(HeapScript script) {
        script.run("3: 80 words of space and not one more", """
                begin() = 1
                15 * make(1, 4) = 1 ..
                make(1, 3) = 16
                count(2) = 79
                make(1, 1) ! IllegalStateException
                make(1, 4) ! IllegalStateException
                make(1, 5) ! IllegalArgumentException
                make(1, 0) = 17
                count(2) = 80
                make(1, 0) ! IllegalStateException
                make(2, 0) ! NoSuchElementException
                """);
        script.run("3: 80 objects without fields, all held, then let go", """
                begin() = 1
                74 * make(1, 0) = 1 ..
                count(3) = 149
                make(1, 0) ! UnsupportedOperationException
                commit(1) = 74
                checkpoint() = 0
                begin() = 2
                6 * make(2, 0) = 75 ..
                make(2, 0) ! IllegalStateException
                counts = 80 80 80 13 1 2 0 6
                fields(80) = 0
                lockedBy(80, 0) = 2
                collect(6) = 74
                counts = 6 80 6 13 1 2 1 6
                make(2, 0) = 81
                """);
        script.run("3: what an aborted transaction made is used until a flip", """
                begin() = 1
                16 * make(1, 4) = 1 ..
                abort(1) = 16
                begin() = 2
                make(2, 0) ! IllegalStateException
                crash() = 1
                begin() = 3
                make(3, 0) ! IllegalStateException
                collect(-1) = 80
                make(3, 0) = 17
                """);
        script.run("3: no space is told before no room in the log; an object needs 2 words of it", """
                begin() = 1
                16 * make(1, 4) = 1 ..
                38 * setInt(1, 1, 0, 3) = 1
                count(3) = 147
                begin() = 2
                begin() = 3
                count(3) = 149
                make(1, 0) ! IllegalStateException
                make(2, 7) ! IllegalArgumentException
                """);
        script.run("3: an object needs 2 words of the log", """
                begin() = 1
                make(1, 1) = 1
                48 * setInt(1, 1, 0, 3) = 1
                count(3) = 147
                begin() = 2
                make(1, 0) = 2
                count(3) = 150
                abort(2) = 0
                count(3) = 149
                make(1, 0) ! UnsupportedOperationException
                make(1, 5) ! IllegalArgumentException
                """);
    }

    private static void setInt(HeapScript script) {
        script.run("4: ints of every size, the last one set counts, each set takes 3 words", """
                begin() = 1
                make(1, 4) = 1
                setInt(1, 1, 0, 2147483647) = 1
                setInt(1, 1, 1, -2147483648) = 1
                setInt(1, 1, 3, 4) = 1
                setInt(1, 1, 3, 5) = 1
                setReference(1, 1, 2, 1) = 1
                setInt(1, 1, 2, -1) = 1
                count(3) = 21
                getInt(1, 1, 0) = 2147483647
                getInt(1, 1, 1) = -2147483648
                getInt(1, 1, 2) = -1
                getInt(1, 1, 3) = 5
                commit(1) = 1
                begin() = 2
                setInt(2, 1, 3, 6) = 1
                lockedBy(1, 0) = 2
                """);
        script.run("4: what is thrown, in the order of testing", """
                setInt(1, 1, 0, 0) ! NoSuchElementException
                begin() = 1
                begin() = 2
                setInt(1, 1, 0, 0) ! NoSuchElementException
                setInt(1, 0, 0, 0) ! NoSuchElementException
                setInt(1, -1, 0, 0) ! NoSuchElementException
                make(1, 2) = 1
                setInt(1, 1, 2, 0) ! IndexOutOfBoundsException
                setInt(1, 1, -1, 0) ! IndexOutOfBoundsException
                setInt(2, 1, 2, 0) ! IndexOutOfBoundsException
                setInt(2, 1, 1, 0) ! IllegalStateException
                setInt(3, 1, 1, 0) ! NoSuchElementException
                make(1, 0) = 2
                setInt(1, 2, 0, 0) ! IndexOutOfBoundsException
                abort(1) = 2
                setInt(1, 1, 0, 0) ! NoSuchElementException
                collect(-1) = 4
                setInt(2, 1, 0, 0) ! NoSuchElementException
                """);
        script.run("4: a set needs 3 words of the log, and locks nothing without them", """
                begin() = 1
                make(1, 1) = 1
                make(1, 1) = 2
                commit(1) = 2
                begin() = 2
                47 * setInt(2, 1, 0, 3) = 1
                count(3) = 148
                setInt(2, 2, 0, 4) ! UnsupportedOperationException
                lockedBy(2, 0) = 0
                setReference(2, 2, 0, 9) ! IllegalArgumentException
                setReference(2, 2, 0, 1) ! UnsupportedOperationException
                setRoot(2, 0, 9) ! IllegalArgumentException
                setRoot(2, 0, 1) ! UnsupportedOperationException
                lockedBy(0, 0) = 0
                begin() = 3
                setInt(3, 1, 0, 4) ! IllegalStateException
                setInt(3, 1, 1, 4) ! IndexOutOfBoundsException
                getInt(2, 2, 0) = 0
                getRoot(2, 0) = 0
                commit(2) = 3
                count(3) = 150
                getInt(3, 1, 0) = 3
                """);
    }

    private static void setReference(HeapScript script) {
        script.run("5: references to others, to itself and to none", """
                begin() = 1
                make(1, 3) = 1
                make(1, 1) = 2
                setReference(1, 1, 0, 2) = 1
                setReference(1, 1, 1, 1) = 1
                setReference(1, 1, 2, 0) = 1
                setReference(1, 2, 0, 1) = 1
                setReference(1, 2, 0, 2) = 1
                count(3) = 20
                getReference(1, 1, 0) = 2
                getReference(1, 1, 1) = 1
                getReference(1, 1, 2) = 0
                getReference(1, 2, 0) = 2
                commit(1) = 2
                """);
        script.run("5: what is thrown, in the order of testing", """
                setReference(1, 1, 0, 0) ! NoSuchElementException
                begin() = 1
                begin() = 2
                setReference(1, 1, 0, 9) ! NoSuchElementException
                setReference(1, 0, 0, 0) ! NoSuchElementException
                make(1, 2) = 1
                setReference(1, 1, 2, 9) ! IndexOutOfBoundsException
                setReference(2, 1, -1, 9) ! IndexOutOfBoundsException
                setReference(2, 1, 0, 9) ! IllegalStateException
                setReference(1, 1, 0, 2) ! IllegalArgumentException
                setReference(1, 1, 0, -1) ! IllegalArgumentException
                setReference(1, 1, 0, 2147483647) ! IllegalArgumentException
                setReference(4, 1, 0, 0) ! NoSuchElementException
                commit(1) = 1
                setReference(2, 1, 0, 2) ! IllegalArgumentException
                lockedBy(1, 0) = 0
                setReference(2, 1, 0, 1) = 1
                make(2, 0) = 2
                commit(2) = 2
                collect(-1) = 4
                begin() = 3
                make(3, 1) = 3
                setReference(3, 3, 0, 2) ! IllegalArgumentException
                setReference(3, 1, 0, 3) ! NoSuchElementException
                getInt(3, 3, 0) = 0
                """);
        script.run("5: an object that nothing holds, but that is there, can be referred to", """
                begin() = 1
                make(1, 1) = 1
                make(1, 0) = 2
                setReference(1, 1, 0, 2) = 1
                commit(1) = 2
                count(7) = 0
                begin() = 2
                make(2, 1) = 3
                setReference(2, 3, 0, 1) = 1
                count(7) = 3
                collect(-1) = 0
                getReference(2, 1, 0) = 2
                """);
    }

    private static void setRoot(HeapScript script) {
        script.run("6: every root, to an object and to none again", """
                begin() = 1
                make(1, 0) = 1
                make(1, 0) = 2
                setRoot(1, 0, 1) = 1
                setRoot(1, 1, 2) = 1
                setRoot(1, 2, 0) = 1
                setRoot(1, 3, 1) = 1
                setRoot(1, 3, 2) = 1
                count(3) = 20
                getRoot(1, 0) = 1
                getRoot(1, 1) = 2
                getRoot(1, 2) = 0
                getRoot(1, 3) = 2
                lockedBy(0, 2) = 1
                commit(1) = 6
                begin() = 2
                setRoot(2, 0, 0) = 1
                setRoot(2, 1, 0) = 1
                setRoot(2, 3, 0) = 1
                commit(2) = 3
                count(7) = 0
                """);
        script.run("6: what is thrown, in the order of testing", """
                setRoot(1, 0, 0) ! NoSuchElementException
                setRoot(1, 9, 9) ! NoSuchElementException
                begin() = 1
                begin() = 2
                setRoot(1, 4, 9) ! IndexOutOfBoundsException
                setRoot(1, -1, 0) ! IndexOutOfBoundsException
                setRoot(1, 0, 1) ! IllegalArgumentException
                setRoot(1, 0, -1) ! IllegalArgumentException
                lockedBy(0, 0) = 0
                setRoot(1, 0, 0) = 1
                setRoot(2, 0, 9) ! IllegalStateException
                setRoot(2, 4, 0) ! IndexOutOfBoundsException
                make(1, 0) = 1
                setRoot(2, 1, 1) = 1
                abort(2) = 1
                abort(1) = 2
                collect(-1) = 1
                begin() = 3
                setRoot(3, 1, 1) ! IllegalArgumentException
                """);
    }
}
