/** The edges of abort, crash and checkpoint, and of a collection that is cut off or not. */
public final class CrashBoundTest {
    private static final String EVERY_KIND = """
            begin() = 1
            make(1, 4) = 1
            setInt(1, 1, 0, -2147483648) = 1
            setInt(1, 1, 1, 2147483647) = 1
            setReference(1, 1, 2, 1) = 1
            setReference(1, 1, 3, 0) = 1
            setRoot(1, 0, 1) = 1
            commit(1) = 2
            begin() = 2
            make(2, 1) = 2
            """;

    // Three are held, by a root, a field and a lock; object 4, of two words, is not.
    private static final String THREE_HELD = """
            begin() = 1
            4 * make(1, 1) = 1 ..
            setRoot(1, 0, 1) = 1
            setReference(1, 1, 0, 2) = 1
            commit(1) = 5
            begin() = 2
            setInt(2, 3, 0, 7) = 1
            count(7) = 3
            count(3) = 20
            """;

    public static void main(String[] arguments) {
        HeapScript script = new HeapScript();
        aborting(script);
        made(script);
        crashes(script);
        checkpoints(script);
        copies(script);
        cutOff(script);
        answers(script);
        script.finish();
    }

    private static void aborting(HeapScript script) {
        String change = EVERY_KIND + """
                setReference(2, 1, 0, 2) = 1
                setReference(2, 1, 1, 0) = 1
                setInt(2, 1, 2, 2147483647) = 1
                setInt(2, 1, 3, -2147483648) = 1
                setInt(2, 1, 3, 0) = 1
                setRoot(2, 0, 2) = 1
                setRoot(2, 0, 0) = 1
                setRoot(2, 3, 2) = 1
                setRoot(2, 3, 1) = 1
                """;
        String before = """
                begin() = 3
                getInt(3, 1, 0) = -2147483648
                getInt(3, 1, 1) = 2147483647
                getReference(3, 1, 2) = 1
                getReference(3, 1, 3) = 0
                getRoot(3, 0) = 1
                getRoot(3, 3) = 0
                """;
        script.run("abort takes back every kind from every kind, set once or more", change + "abort(2) = 4\n" + before);
        script.run("crash takes back every kind from every kind", change + "crash() = 1\n" + before);
        script.run("a collection cut off takes back every kind from every kind", change + "collect(1) = -2\n" + before);
        script.run("a commit keeps every kind, and a crash behind it", change + """
                commit(2) = 4
                crash() = 0
                begin() = 3
                getReference(3, 1, 0) = 2
                getReference(3, 1, 1) = 0
                getInt(3, 1, 2) = 2147483647
                getInt(3, 1, 3) = 0
                getRoot(3, 0) = 0
                getRoot(3, 3) = 1
                """);
        script.run("abort takes nothing back of what was read, and nothing twice", EVERY_KIND + """
                getInt(2, 1, 0) = -2147483648
                getReference(2, 1, 2) = 1
                getRoot(2, 0) = 1
                abort(2) = 3
                begin() = 3
                setInt(3, 1, 0, 5) = 1
                setRoot(3, 0, 0) = 1
                commit(3) = 2
                begin() = 4
                getInt(4, 1, 0) = 5
                getRoot(4, 0) = 0
                abort(4) = 2
                crash() = 0
                begin() = 5
                getInt(5, 1, 0) = 5
                getRoot(5, 0) = 0
                """);
    }

    private static void made(HeapScript script) {
        String make = """
                begin() = 1
                make(1, 4) = 1
                make(1, 0) = 2
                setInt(1, 1, 0, 5) = 1
                setReference(1, 1, 1, 2) = 1
                setReference(1, 1, 2, 0) = 1
                count(7) = 2
                """;
        String stays = """
                counts = 2 2 6 0 0 1 0 0
                fields(1) = 4
                fields(2) = 0
                lockedBy(1, 0) = 0
                begin() = 2
                getInt(2, 1, 0) = 0
                getInt(2, 1, 1) = 0
                getInt(2, 1, 2) = 0
                getInt(2, 1, 3) = 0
                setRoot(2, 0, 2) = 1
                commit(2) = 2
                count(7) = 1
                """;
        script.run("objects that an aborted one made stay, with all fields as they were made", make + "abort(1) = 2\n" + stays);
        script.run("objects that one cut off by a crash made stay", make + "crash() = 1\n" + stays);
        script.run("objects that one cut off in a collection made stay", make + "collect(1) = -2\n" + stays);
        script.run("what an aborted one made stays held by what another set to it", """
                begin() = 1
                begin() = 2
                make(1, 1) = 1
                make(2, 1) = 2
                setRoot(2, 0, 1) = 1
                setInt(1, 1, 0, 5) = 1
                abort(1) = 1
                count(7) = 2
                collect(2) = 0
                getInt(2, 1, 0) = 0
                commit(2) = 3
                count(7) = 1
                """);
    }

    private static void crashes(HeapScript script) {
        script.run("crash with none to three active, in an empty heap too", """
                crash() = 0
                counts = 0 0 0 0 0 0 0 0
                begin() = 1
                crash() = 1
                begin() = 2
                begin() = 3
                crash() = 2
                begin() = 4
                begin() = 5
                begin() = 6
                crash() = 3
                crash() = 0
                counts = 0 0 0 0 0 6 0 0
                begin() = 7
                begin() = 8
                commit(7) = 0
                crash() = 1
                counts = 0 0 0 0 0 8 0 0
                """);
        script.run("crash empties the log of what had ended too, and flips nothing", """
                begin() = 1
                make(1, 1) = 1
                commit(1) = 1
                count(3) = 4
                crash() = 0
                counts = 1 1 2 0 0 1 0 0
                """);
    }

    private static void checkpoints(HeapScript script) {
        script.run("checkpoint of an empty log, of one with ended ones alone, with active ones alone", """
                checkpoint() = 0
                begin() = 1
                make(1, 0) = 1
                setRoot(1, 0, 1) = 1
                commit(1) = 2
                count(3) = 7
                checkpoint() = 0
                checkpoint() = 0
                begin() = 2
                checkpoint() = 1
                setRoot(2, 1, 1) = 1
                checkpoint() = 4
                begin() = 3
                abort(3) = 0
                checkpoint() = 4
                counts = 1 1 1 4 1 3 0 1
                commit(2) = 1
                count(3) = 5
                checkpoint() = 0
                """);
        script.run("checkpoint with three active, of different sizes, leaves all their records", """
                begin() = 1
                begin() = 2
                begin() = 3
                begin() ! IllegalStateException
                setRoot(1, 0, 0) = 1
                make(2, 0) = 1
                checkpoint() = 8
                commit(2) = 1
                checkpoint() = 5
                commit(3) = 0
                checkpoint() = 4
                abort(1) = 1
                checkpoint() = 0
                """);
    }

    private static void copies(HeapScript script) {
        String cut = """
                counts = 4 4 8 0 0 2 0 2
                fields(4) = 1
                lockedBy(3, 0) = 0
                begin() = 3
                getInt(3, 3, 0) = 0
                """;
        String whole = """
                counts = 3 4 6 4 1 2 1 3
                fields(4) ! NoSuchElementException
                lockedBy(3, 0) = 2
                getInt(2, 3, 0) = 7
                """;
        for (int copies = 0; copies < 3; copies++) {
            script.run("copies 0 or more and less than the number of held objects: " + copies + " of 3",
                    THREE_HELD + "collect(" + copies + ") = -2\n" + cut);
        }
        for (int copies : new int[] {-1, -2, -3, -4, Integer.MIN_VALUE, 3, 4, 5, 80, Integer.MAX_VALUE}) {
            script.run("copies less than 0, or not less than the number of held objects: " + copies + " of 3",
                    THREE_HELD + "collect(" + copies + ") = 2\n" + whole);
        }
        script.run("copies 0 and nothing held: it is not cut off, and flips", """
                collect(0) = 0
                counts = 0 0 0 0 0 0 1 0
                begin() = 1
                collect(0) = 0
                counts = 0 0 0 1 1 1 2 0
                make(1, 2) = 1
                commit(1) = 1
                begin() = 2
                collect(0) = 3
                counts = 0 1 0 1 1 2 3 0
                """);
        script.run("copies 0 and one held: it is cut off", """
                begin() = 1
                make(1, 2) = 1
                collect(0) = -2
                counts = 1 1 3 0 0 1 0 0
                collect(0) = 3
                counts = 0 1 0 0 0 1 1 0
                """);
    }

    private static void cutOff(HeapScript script) {
        for (int active = 0; active <= 3; active++) {
            StringBuilder text = new StringBuilder("begin() = 1\nmake(1, 1) = 1\nsetRoot(1, 2, 1) = 1\ncommit(1) = 2\n");
            for (int i = 0; i < active; i++) {
                text.append("begin() = " + (i + 2) + "\n");
            }
            text.append("collect(0) = " + (-1 - active) + "\ncounts = 1 1 2 0 0 " + (active + 1) + " 0 1\n");
            text.append("collect(0) = -1\ncollect(1) = 0\ncounts = 1 1 2 0 0 " + (active + 1) + " 1 1\n");
            script.run("answers -1 - the number of transactions that were active: " + active, text.toString());
        }
        script.run("a collection cut off moves nothing, and a whole one can follow", THREE_HELD + """
                collect(2) = -2
                collect(2) = 4
                counts = 2 4 4 0 0 2 1 2
                begin() = 3
                getRoot(3, 0) = 1
                getReference(3, 1, 0) = 2
                fields(3) ! NoSuchElementException
                make(3, 0) = 5
                """);
    }

    private static void answers(HeapScript script) {
        script.run("answers how many words less are used: none, some, all", """
                collect(-1) = 0
                begin() = 1
                make(1, 4) = 1
                make(1, 0) = 2
                collect(-1) = 0
                setRoot(1, 0, 2) = 1
                commit(1) = 3
                collect(-1) = 5
                collect(-1) = 0
                begin() = 2
                setRoot(2, 0, 0) = 1
                collect(-1) = 0
                commit(2) = 1
                collect(-1) = 1
                counts = 0 2 0 0 0 2 6 0
                """);
        script.run("a checkpoint comes with the flip, not with a collection of nothing alone", """
                begin() = 1
                setRoot(1, 0, 0) = 1
                commit(1) = 1
                begin() = 2
                count(3) = 6
                collect(7) = 0
                counts = 0 0 0 1 1 2 1 0
                """);
    }
}
