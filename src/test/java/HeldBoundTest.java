/** The edges of "what is held", one clause after the other, and of what a flip makes of the rest. */
public final class HeldBoundTest {
    // Root 0 is to object 1, whose field is to object 2; 3 and 4 are there, and held by nothing.
    private static final String ONE_TO_TWO = """
            begin() = 1
            make(1, 1) = 1
            make(1, 0) = 2
            make(1, 0) = 3
            make(1, 0) = 4
            setReference(1, 1, 0, 2) = 1
            setRoot(1, 0, 1) = 1
            commit(1) = 5
            checkpoint() = 0
            count(7) = 2
            begin() = 2
            """;

    public static void main(String[] arguments) {
        HeapScript script = new HeapScript();
        roots(script);
        locked(script);
        beforeTheFirstSet(script);
        beforeTheFirstSetEnds(script);
        fieldsOfHeld(script);
        gone(script);
        script.finish();
    }

    private static void roots(HeapScript script) {
        script.run("held: nothing, in an empty heap and with roots to none", """
                count(7) = 0
                begin() = 1
                4 * make(1, 0) = 1 ..
                setRoot(1, 0, 0) = 1
                commit(1) = 5
                count(7) = 0
                collect(-1) = 4
                """);
        script.run("held: by the first root, the last, and by all of them one object, counted once", """
                begin() = 1
                make(1, 0) = 1
                make(1, 0) = 2
                make(1, 0) = 3
                setRoot(1, 0, 1) = 1
                setRoot(1, 3, 3) = 1
                commit(1) = 5
                count(7) = 2
                collect(-1) = 1
                fields(1) = 0
                fields(2) ! NoSuchElementException
                fields(3) = 0
                begin() = 2
                setRoot(2, 0, 1) = 1
                setRoot(2, 1, 1) = 1
                setRoot(2, 2, 1) = 1
                setRoot(2, 3, 1) = 1
                count(7) = 2
                commit(2) = 4
                count(7) = 1
                collect(1) = 1
                """);
    }

    private static void locked(HeapScript script) {
        script.run("held: locked objects, one that is only read too, until the transaction is over", """
                begin() = 1
                make(1, 1) = 1
                make(1, 1) = 2
                make(1, 1) = 3
                count(7) = 3
                commit(1) = 3
                count(7) = 0
                begin() = 2
                begin() = 3
                getInt(2, 1, 0) = 0
                count(7) = 1
                getReference(3, 2, 0) ! ArithmeticException
                count(7) = 2
                setInt(3, 3, 0, 1) = 1
                count(7) = 3
                collect(3) = 0
                abort(3) = 2
                count(7) = 1
                collect(1) = 4
                commit(2) = 1
                count(7) = 0
                collect(0) = 2
                """);
        script.run("held: a locked root holds what it is to, nothing when it is to none", """
                begin() = 1
                make(1, 0) = 1
                commit(1) = 1
                begin() = 2
                getRoot(2, 0) = 0
                count(7) = 0
                setRoot(2, 0, 1) = 1
                count(7) = 1
                abort(2) = 1
                count(7) = 0
                """);
    }

    private static void beforeTheFirstSet(HeapScript script) {
        script.run("held: what a root was to before the first set, with what that refers to", ONE_TO_TWO + """
                setRoot(2, 0, 0) = 1
                count(7) = 2
                setRoot(2, 0, 0) = 1
                count(7) = 2
                collect(2) = 2
                fields(1) = 1
                fields(2) = 0
                fields(3) ! NoSuchElementException
                """);
        script.run("held: not what a root was to before the second set", ONE_TO_TWO + """
                setRoot(2, 0, 3) = 1
                count(7) = 3
                setRoot(2, 0, 4) = 1
                count(7) = 3
                collect(3) = 1
                fields(3) ! NoSuchElementException
                fields(4) = 0
                """);
        script.run("held: what a field was to before the first set, whichever kind is set", ONE_TO_TWO + """
                setInt(2, 1, 0, 4) = 1
                count(7) = 2
                setReference(2, 1, 0, 3) = 1
                count(7) = 3
                setReference(2, 1, 0, 0) = 1
                count(7) = 2
                collect(2) = 2
                fields(2) = 0
                abort(2) = 1
                begin() = 3
                getReference(3, 1, 0) = 2
                """);
        script.run("held: not what a field was to before the second set", ONE_TO_TWO + """
                setReference(2, 1, 0, 3) = 1
                setReference(2, 1, 0, 4) = 1
                count(7) = 3
                collect(3) = 1
                fields(2) = 0
                fields(3) ! NoSuchElementException
                abort(2) = 1
                begin() = 3
                getReference(3, 1, 0) = 2
                """);
        script.run("held: nothing by an int that was there before the first set", ONE_TO_TWO + """
                setInt(2, 1, 0, 3) = 1
                commit(2) = 1
                begin() = 3
                setReference(3, 1, 0, 4) = 1
                count(7) = 2
                collect(2) = 2
                fields(3) ! NoSuchElementException
                abort(3) = 1
                begin() = 4
                getInt(4, 1, 0) = 3
                """);
        script.run("held: what is set to what it was to, once", ONE_TO_TWO + """
                setReference(2, 1, 0, 2) = 1
                setRoot(2, 0, 1) = 1
                count(7) = 2
                collect(2) = 2
                """);
        script.run("held: before the first set by that transaction, not by an earlier one", ONE_TO_TWO + """
                setRoot(2, 0, 3) = 1
                commit(2) = 1
                count(7) = 1
                begin() = 3
                setRoot(3, 0, 4) = 1
                count(7) = 2
                collect(2) = 3
                fields(1) ! NoSuchElementException
                fields(3) = 0
                abort(3) = 1
                begin() = 4
                getRoot(4, 0) = 3
                """);
        script.run("held: before the first set, of two transactions at a time", ONE_TO_TWO + """
                begin() = 3
                setReference(2, 1, 0, 3) = 1
                setRoot(3, 0, 4) = 1
                count(7) = 4
                collect(4) = 0
                commit(3) = 1
                # 1 is locked by transaction 2 still, and what it was to is held
                count(7) = 4
                abort(2) = 1
                count(7) = 1
                """);
    }

    private static void beforeTheFirstSetEnds(HeapScript script) {
        String set = ONE_TO_TWO + "setReference(2, 1, 0, 3) = 1\nsetRoot(2, 0, 4) = 1\ncount(7) = 4\n";
        script.run("held until the transaction is over: a commit lets go what was before", set + """
                commit(2) = 2
                count(7) = 1
                collect(1) = 4
                fields(4) = 0
                """);
        script.run("held until the transaction is over: an abort lets go what was set", set + """
                abort(2) = 2
                count(7) = 2
                collect(2) = 2
                fields(1) = 1
                fields(2) = 0
                """);
        script.run("held until the transaction is over: a crash lets go what was set", set + """
                crash() = 1
                count(7) = 2
                collect(2) = 2
                """);
        script.run("held until the transaction is over: a checkpoint is no end", set + """
                checkpoint() = 7
                count(7) = 4
                collect(3) = -2
                count(7) = 2
                """);
    }

    private static void fieldsOfHeld(HeapScript script) {
        StringBuilder chain = new StringBuilder("begin() = 1\n40 * make(1, 1) = 1 ..\nsetRoot(1, 3, 40) = 1\n");
        for (int object = 2; object <= 20; object++) {
            chain.append("setReference(1, " + object + ", 0, " + (object - 1) + ") = 1\n");
        }
        chain.append("commit(1) = 41\ncheckpoint() = 0\nbegin() = 2\n");
        for (int object = 21; object <= 40; object++) {
            chain.append("setReference(2, " + object + ", 0, " + (object - 1) + ") = 1\n");
        }
        script.run("held: a chain as long as the space lets it be", chain + """
                commit(2) = 20
                counts = 40 40 80 62 0 2 0 40
                collect(40) = 0
                collect(39) = -1
                begin() = 3
                setReference(3, 2, 0, 0) = 1
                commit(3) = 1
                count(7) = 39
                collect(39) = 2
                fields(1) ! NoSuchElementException
                fields(2) = 1
                """);
        script.run("held: the first field and the last, and none that an object lost", """
                begin() = 1
                make(1, 4) = 1
                5 * make(1, 0) = 2 ..
                setReference(1, 1, 0, 2) = 1
                setReference(1, 1, 1, 3) = 1
                setReference(1, 1, 2, 4) = 1
                setReference(1, 1, 3, 5) = 1
                setRoot(1, 0, 1) = 1
                commit(1) = 7
                count(7) = 5
                begin() = 2
                setInt(2, 1, 1, 3) = 1
                setReference(2, 1, 2, 0) = 1
                commit(2) = 1
                count(7) = 3
                collect(3) = 3
                fields(2) = 0
                fields(3) ! NoSuchElementException
                fields(4) ! NoSuchElementException
                fields(5) = 0
                fields(6) ! NoSuchElementException
                """);
        script.run("held: an object that refers to itself holds itself only when it is held", """
                begin() = 1
                make(1, 1) = 1
                make(1, 1) = 2
                setReference(1, 1, 0, 1) = 1
                setReference(1, 2, 0, 2) = 1
                setRoot(1, 1, 1) = 1
                commit(1) = 3
                count(7) = 1
                collect(1) = 2
                fields(1) = 1
                fields(2) ! NoSuchElementException
                """);
        script.run("held: not what refers to a held one", """
                begin() = 1
                make(1, 1) = 1
                make(1, 1) = 2
                setReference(1, 1, 0, 2) = 1
                setRoot(1, 0, 2) = 1
                commit(1) = 3
                count(7) = 1
                collect(-1) = 2
                fields(1) ! NoSuchElementException
                """);
    }

    private static void gone(HeapScript script) {
        script.run("gone as if they had never been: the newest, the oldest and one between", """
                begin() = 1
                5 * make(1, 1) = 1 ..
                setRoot(1, 0, 2) = 1
                setReference(1, 2, 0, 4) = 1
                setInt(1, 4, 0, 44) = 1
                commit(1) = 6
                collect(-1) = 6
                counts = 2 5 4 0 0 1 1 2
                fields(1) ! NoSuchElementException
                fields(2) = 1
                fields(3) ! NoSuchElementException
                fields(4) = 1
                fields(5) ! NoSuchElementException
                lockedBy(5, 0) ! NoSuchElementException
                begin() = 2
                getInt(2, 1, 0) ! NoSuchElementException
                setInt(2, 3, 0, 1) ! NoSuchElementException
                setReference(2, 5, 0, 2) ! NoSuchElementException
                getReference(2, 5, 0) ! NoSuchElementException
                setReference(2, 2, 0, 5) ! IllegalArgumentException
                setRoot(2, 0, 1) ! IllegalArgumentException
                getReference(2, 2, 0) = 4
                getInt(2, 4, 0) = 44
                make(2, 1) = 6
                getInt(2, 6, 0) = 0
                """);
        script.run("not gone before a flip: what nothing holds can be named, locked and referred to", """
                begin() = 1
                make(1, 1) = 1
                make(1, 1) = 2
                setInt(1, 1, 0, 11) = 1
                commit(1) = 2
                count(7) = 0
                begin() = 2
                getInt(2, 1, 0) = 11
                setReference(2, 2, 0, 1) = 1
                setRoot(2, 0, 2) = 1
                commit(2) = 3
                count(7) = 2
                collect(-1) = 0
                """);
    }
}
