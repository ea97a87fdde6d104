/**
 * The edges of every argument: each call with each transaction that is not active, each object, field, root and
 * target that is not there, and each number out of its bounds; and beside them the first and last that is right.
 * A run's text is a state, then a line for each wrong argument put in for ?, then the lines with right ones.
 */
public final class WrongArgumentsTest {
    private static final String FARTHEST = " -2147483648 2147483647";

    private static final HeapScript SCRIPT = new HeapScript();

    public static void main(String[] arguments) {
        transactions();
        objects();
        fields();
        roots();
        targets();
        numbersOfFields();
        counts();
        SCRIPT.finish();
    }

    private static void play(String title, String state, String call, String wrong, String thrown, String right) {
        StringBuilder text = new StringBuilder(state);
        for (String argument : wrong.split(" ")) {
            text.append(call.replace("?", argument)).append(" ! ").append(thrown).append('\n');
        }
        SCRIPT.run(title + ": " + call, text.append(right).toString());
    }

    private static void transactions() {
        // 1 has committed, 2 and 3 were aborted, 3 by a crash, 4 by a collection cut off; 6 has not begun.
        String state = """
                begin() = 1
                commit(1) = 0
                begin() = 2
                abort(2) = 0
                begin() = 3
                make(3, 1) = 1
                crash() = 1
                begin() = 4
                make(4, 1) = 2
                collect(0) = -2
                begin() = 5
                make(5, 2) = 3
                setReference(5, 3, 1, 3) = 1
                """;
        String[] calls = {
            "make(?, 1)=4", "setInt(?, 3, 0, 7)=1", "setReference(?, 3, 0, 3)=1", "setRoot(?, 1, 3)=1",
            "getInt(?, 3, 0)=0", "getReference(?, 3, 1)=3", "getRoot(?, 1)=0", "commit(?)=1", "abort(?)=1",
        };
        for (String callAndAnswer : calls) {
            String call = callAndAnswer.split("=")[0];
            String right = call.replace("?", "5") + " = " + callAndAnswer.split("=")[1];
            play("NoSuchElementException if the transaction is not active", state, call,
                    "0 -1 1 2 3 4 6 -5" + FARTHEST, "NoSuchElementException", right);
        }
    }

    private static void objects() {
        // 1 and 3, the newest, are gone; 4 has not been made.
        String state = """
                begin() = 1
                make(1, 2) = 1
                commit(1) = 1
                begin() = 2
                make(2, 2) = 2
                setReference(2, 2, 1, 2) = 1
                begin() = 3
                make(3, 2) = 3
                abort(3) = 1
                collect(-1) = 6
                """;
        String[] calls = {
            "setInt(2, ?, 0, 7)=1", "setReference(2, ?, 0, 2)=1", "getInt(2, ?, 0)=0", "getReference(2, ?, 1)=2",
            "fields(?)=2", "lockedBy(?, 0)=2",
        };
        for (String callAndAnswer : calls) {
            String call = callAndAnswer.split("=")[0];
            String right = call.replace("?", "2") + " = " + callAndAnswer.split("=")[1];
            // lockedBy(0, 0) asks for a root.
            String wrong = (call.startsWith("lockedBy") ? "" : "0 ") + "-1 -2 1 3 4" + FARTHEST;
            play("NoSuchElementException if there is no object with the handle, or it is gone", state, call,
                    wrong, "NoSuchElementException", right);
        }
    }

    private static void fields() {
        String[] calls = {"setInt(1, 1, ?, 7)", "setReference(1, 1, ?, 1)", "getInt(1, 1, ?)", "getReference(1, 1, ?)"};
        for (int n = 0; n <= 4; n++) {
            StringBuilder state = new StringBuilder("begin() = 1\nmake(1, " + n + ") = 1\nmake(1, 4) = 2\n");
            StringBuilder right = new StringBuilder();
            for (int field = 0; field < n; field++) {
                right.append("setInt(1, 1, " + field + ", " + (field + 7) + ") = 1\n");
                right.append("getInt(1, 1, " + field + ") = " + (field + 7) + "\n");
                right.append("setReference(1, 1, " + field + ", " + (field % 2 + 1) + ") = 1\n");
            }
            for (int field = 0; field < n; field++) {
                right.append("getReference(1, 1, " + field + ") = " + (field % 2 + 1) + "\n");
            }
            for (String call : calls) {
                play("IndexOutOfBoundsException if there is no such field, of " + n, state.toString(), call,
                        "-1 " + n + " " + (n + 1) + FARTHEST, "IndexOutOfBoundsException", right.toString());
            }
        }
    }

    private static void roots() {
        String state = """
                begin() = 1
                make(1, 1) = 1
                """;
        String right = """
                setRoot(1, 0, 1) = 1
                setRoot(1, 3, 1) = 1
                getRoot(1, 0) = 1
                getRoot(1, 1) = 0
                getRoot(1, 3) = 1
                lockedBy(0, 0) = 1
                lockedBy(0, 2) = 0
                lockedBy(0, 3) = 1
                """;
        String wrong = "-1 4 5" + FARTHEST;
        String title = "IndexOutOfBoundsException if there is no such root (0 .. 3)";
        play(title, state, "setRoot(1, ?, 1)", wrong, "IndexOutOfBoundsException", right);
        play(title, state, "getRoot(1, ?)", wrong, "IndexOutOfBoundsException", right);
        play("NoSuchElementException: for object 0 no such root", state, "lockedBy(0, ?)", wrong,
                "NoSuchElementException", right);
    }

    private static void targets() {
        // 1 and 3, the newest, are gone; 4 has not been made.
        String state = """
                begin() = 1
                make(1, 0) = 1
                begin() = 2
                make(2, 1) = 2
                make(1, 0) = 3
                commit(1) = 2
                collect(-1) = 2
                """;
        String right = """
                setReference(2, 2, 0, 2) = 1
                setRoot(2, 3, 2) = 1
                getReference(2, 2, 0) = 2
                getRoot(2, 3) = 2
                setReference(2, 2, 0, 0) = 1
                setRoot(2, 3, 0) = 1
                getReference(2, 2, 0) = 0
                getRoot(2, 3) = 0
                """;
        String wrong = "-1 -2 1 3 4" + FARTHEST;
        String title = "IllegalArgumentException: target is not 0 (none) and no handle of an object, or that is gone";
        play(title, state, "setReference(2, 2, 0, ?)", wrong, "IllegalArgumentException", right);
        play(title, state, "setRoot(2, 3, ?)", wrong, "IllegalArgumentException", right);
    }

    private static void numbersOfFields() {
        String right = """
                make(1, 0) = 1
                make(1, 4) = 2
                fields(1) = 0
                fields(2) = 4
                count(2) = 6
                """;
        play("IllegalArgumentException: n not 0 .. 4", "begin() = 1\n", "make(1, ?)", "-1 -2 5 6" + FARTHEST,
                "IllegalArgumentException", right);
    }

    private static void counts() {
        play("IllegalArgumentException: another number", "begin() = 1\nmake(1, 4) = 1\n", "count(?)",
                "-1 8 9" + FARTHEST, "IllegalArgumentException", "counts = 1 1 5 3 1 1 0 1");
    }
}
