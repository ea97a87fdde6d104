/**
 * "The log has room for 150 words", and what a record takes of it: for each call that writes one, the last words
 * that it fits into and one word less; what makes room again; and the calls that need none.
 */
public final class LogBoundTest {
    // 147 words, of transaction 1 alone; each begin behind it adds one.
    private static final String THREE_LEFT = """
            begin() = 1
            make(1, 2) = 1
            48 * setInt(1, 1, 0, 3) = 1
            count(3) = 147
            """;
    private static final String TWO_LEFT = THREE_LEFT + """
            begin() = 2
            count(3) = 148
            """;
    private static final String ONE_LEFT = TWO_LEFT + """
            begin() = 3
            count(3) = 149
            """;
    private static final String NONE_LEFT = ONE_LEFT + """
            commit(3) = 0
            count(3) = 150
            """;

    public static void main(String[] arguments) {
        HeapScript script = new HeapScript();
        beginning(script);
        objectMade(script);
        set(script, "setInt(1, 1, 1, 8)");
        set(script, "setReference(1, 1, 1, 1)");
        set(script, "setReference(1, 1, 1, 0)");
        set(script, "setRoot(1, 3, 1)");
        set(script, "setRoot(1, 3, 0)");
        end(script);
        eachSetIsARecord(script);
        withoutRecord(script);
        roomAgain(script);
        noRoomAgain(script);
        script.finish();
    }

    private static void beginning(HeapScript script) {
        script.run("a beginning 1 word: into the last one", TWO_LEFT + """
                commit(2) = 0
                count(3) = 149
                begin() = 3
                count(3) = 150
                count(4) = 2
                """);
        script.run("a beginning 1 word: not into none", NONE_LEFT + """
                begin() ! UnsupportedOperationException
                count(4) = 2
                count(5) = 3
                abort(2) = 0
                begin() = 4
                """);
    }

    private static void objectMade(HeapScript script) {
        script.run("an object made 2 words: into the last two", TWO_LEFT + """
                make(2, 4) = 2
                count(3) = 150
                count(2) = 8
                """);
        script.run("an object made 2 words: not into one", ONE_LEFT + """
                make(2, 0) ! UnsupportedOperationException
                make(2, 4) ! UnsupportedOperationException
                abort(3) = 0
                make(2, 0) = 2
                """);
        script.run("an object made 2 words: not into none", NONE_LEFT + """
                make(2, 0) ! UnsupportedOperationException
                count(1) = 1
                checkpoint() = 148
                make(2, 0) = 2
                """);
    }

    private static void set(HeapScript script, String call) {
        String refused = call + " ! UnsupportedOperationException\n";
        String fits = call + " = 1\n";
        String title = "a field or root set 3 words: " + call;
        script.run(title + " into the last three", THREE_LEFT + fits + "count(3) = 150\n" + refused);
        script.run(title + " not into two", TWO_LEFT + refused + "abort(2) = 0\n" + fits);
        script.run(title + " not into one", ONE_LEFT + refused + "abort(2) = 0\n" + refused + "abort(3) = 0\n" + fits);
        script.run(title + " not into none", NONE_LEFT + refused + "checkpoint() = 148\n" + refused);
    }

    private static void end(HeapScript script) {
        script.run("a transaction's end 1 word: into the last one", ONE_LEFT + """
                commit(1) = 1
                count(3) = 150
                commit(2) ! UnsupportedOperationException
                begin() ! UnsupportedOperationException
                """);
        script.run("a transaction's end 1 word: not into none, and it stays active with its locks", NONE_LEFT + """
                commit(1) ! UnsupportedOperationException
                commit(2) ! UnsupportedOperationException
                lockedBy(1, 0) = 1
                getInt(2, 1, 0) ! IllegalStateException
                getInt(1, 1, 0) = 3
                checkpoint() = 148
                commit(1) = 1
                count(3) = 149
                commit(2) = 0
                count(3) = 150
                """);
    }

    private static void eachSetIsARecord(HeapScript script) {
        script.run("a set of what is there already is a record too", """
                begin() = 1
                make(1, 1) = 1
                setInt(1, 1, 0, 0) = 1
                count(3) = 6
                setInt(1, 1, 0, 0) = 1
                count(3) = 9
                setReference(1, 1, 0, 1) = 1
                setReference(1, 1, 0, 1) = 1
                count(3) = 15
                setRoot(1, 0, 0) = 1
                setRoot(1, 0, 0) = 1
                count(3) = 21
                """);
        script.run("an object made 2 words, whatever its fields", """
                begin() = 1
                make(1, 0) = 1
                count(3) = 3
                make(1, 4) = 2
                count(3) = 5
                commit(1) = 2
                count(3) = 6
                """);
    }

    private static void withoutRecord(HeapScript script) {
        script.run("a call without a record finds room in a full log", NONE_LEFT + """
                getInt(1, 1, 0) = 3
                getReference(1, 1, 0) ! ArithmeticException
                getRoot(2, 0) = 0
                lockedBy(0, 0) = 2
                fields(1) = 2
                count(3) = 150
                """);
        script.run("abort: its records leave the log with it, whatever room there is", NONE_LEFT + """
                abort(1) = 1
                count(3) = 3
                begin() = 4
                getInt(4, 1, 0) = 0
                """);
        script.run("abort: of one that has only begun, in a full log", NONE_LEFT + """
                abort(2) = 0
                count(3) = 149
                abort(1) = 1
                count(3) = 2
                checkpoint() = 0
                """);
        script.run("a collection in a full log comes with its checkpoint", NONE_LEFT + """
                collect(-1) = 0
                count(3) = 148
                make(1, 1) = 2
                count(3) = 150
                collect(0) = -3
                count(3) = 0
                """);
    }

    private static void roomAgain(HeapScript script) {
        script.run("a crash empties a full log", NONE_LEFT + """
                crash() = 2
                count(3) = 0
                begin() = 4
                make(4, 0) = 2
                49 * setInt(4, 1, 0, 4) = 1
                count(3) = 150
                crash() = 1
                count(3) = 0
                """);
        script.run("a collection cut off empties a full log, as a crash", NONE_LEFT + """
                collect(0) = -3
                counts = 1 1 3 0 0 3 0 0
                begin() = 4
                getInt(4, 1, 0) = 0
                """);
        script.run("a checkpoint empties a log that is full of what has ended", ONE_LEFT + """
                abort(2) = 0
                abort(3) = 0
                count(3) = 147
                commit(1) = 1
                begin() = 4
                commit(4) = 0
                count(3) = 150
                begin() ! UnsupportedOperationException
                checkpoint() = 0
                count(3) = 0
                begin() = 5
                getInt(5, 1, 0) = 3
                """);
    }

    private static void noRoomAgain(HeapScript script) {
        script.run("a checkpoint leaves a log full that the active ones have filled", """
                begin() = 1
                begin() = 2
                begin() = 3
                24 * setRoot(1, 0, 0) = 1
                24 * setRoot(2, 1, 0) = 1
                setRoot(3, 2, 0) = 1
                count(3) = 150
                checkpoint() = 150
                collect(-1) = 0
                count(3) = 150
                setRoot(3, 2, 0) ! UnsupportedOperationException
                make(3, 0) ! UnsupportedOperationException
                commit(3) ! UnsupportedOperationException
                abort(3) = 1
                count(3) = 146
                commit(1) = 1
                checkpoint() = 73
                """);
        script.run("a commit frees nothing before a checkpoint", ONE_LEFT + """
                commit(1) = 1
                begin() ! UnsupportedOperationException
                make(2, 0) ! UnsupportedOperationException
                checkpoint() = 2
                make(2, 0) = 2
                count(3) = 4
                """);
    }
}
