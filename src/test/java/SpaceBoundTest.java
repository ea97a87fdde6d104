/** "The space has 80 words": what fits into the last of them, what is used, and what a flip frees. */
public final class SpaceBoundTest {
    // 75 words, and 31 of the log.
    private static final String FIVE_LEFT = """
            begin() = 1
            15 * make(1, 4) = 1 ..
            count(2) = 75
            """;

    public static void main(String[] arguments) {
        HeapScript script = new HeapScript();
        for (int left = 0; left <= 5; left++) {
            lastWords(script, left);
        }
        wordsOfAnObject(script);
        asManyObjectsAsWords(script);
        usedWhateverBecameOfThem(script);
        freedByAFlip(script);
        handles(script);
        script.finish();
    }

    private static void lastWords(HeapScript script, int left) {
        StringBuilder text = new StringBuilder(FIVE_LEFT);
        int next = 16;
        if (left < 5) {
            text.append("make(1, " + (4 - left) + ") = 16\n");
            next++;
        }
        text.append("count(2) = " + (80 - left) + "\n");
        for (int n = 4; n >= left; n--) {
            text.append("make(1, " + n + ") ! IllegalStateException\n");
        }
        if (left > 0) {
            text.append("make(1, " + (left - 1) + ") = " + next + "\n");
        }
        text.append("count(2) = 80\nmake(1, 0) ! IllegalStateException\n");
        script.run("IllegalStateException: there is no space, with " + left + " words left", text.toString());
    }

    private static void wordsOfAnObject(HeapScript script) {
        script.run("an object with n fields has 1 + n words", """
                begin() = 1
                make(1, 0) = 1
                count(2) = 1
                make(1, 1) = 2
                count(2) = 3
                make(1, 2) = 3
                count(2) = 6
                make(1, 3) = 4
                count(2) = 10
                make(1, 4) = 5
                count(2) = 15
                """);
    }

    private static void asManyObjectsAsWords(HeapScript script) {
        script.run("80 objects of one word, all there and all held", """
                begin() = 1
                70 * make(1, 0) = 1 ..
                setRoot(1, 0, 1) = 1
                commit(1) = 71
                checkpoint() = 0
                begin() = 2
                10 * make(2, 0) = 71 ..
                make(2, 0) ! IllegalStateException
                counts = 80 80 80 21 1 2 0 11
                collect(10) = -2
                counts = 80 80 80 0 0 2 0 1
                collect(1) = 79
                counts = 1 80 1 0 0 2 1 1
                """);
        script.run("as many objects locked, and so held, as the log lets be made", """
                begin() = 1
                begin() = 2
                10 * make(2, 0) = 1 ..
                60 * make(1, 0) = 11 ..
                begin() = 3
                count(3) = 143
                3 * make(3, 0) = 71 ..
                count(3) = 149
                collect(73) = 0
                counts = 73 73 73 149 3 3 1 73
                collect(72) = -4
                counts = 73 73 73 0 0 3 1 0
                begin() = 4
                7 * make(4, 0) = 74 ..
                make(4, 0) ! IllegalStateException
                collect(7) = 73
                """);
    }

    private static void usedWhateverBecameOfThem(HeapScript script) {
        script.run("used: what was aborted, and what nothing holds", """
                begin() = 1
                15 * make(1, 4) = 1 ..
                abort(1) = 15
                count(2) = 75
                begin() = 2
                make(2, 4) = 16
                commit(2) = 1
                count(7) = 0
                count(2) = 80
                begin() = 3
                make(3, 0) ! IllegalStateException
                """);
        script.run("used: what a crash took from its maker, and behind a collection cut off", """
                begin() = 1
                16 * make(1, 4) = 1 ..
                collect(15) = -2
                counts = 16 16 80 0 0 1 0 0
                begin() = 2
                make(2, 0) ! IllegalStateException
                crash() = 1
                count(2) = 80
                checkpoint() = 0
                count(2) = 80
                begin() = 3
                make(3, 0) ! IllegalStateException
                """);
    }

    private static void freedByAFlip(HeapScript script) {
        script.run("used are then the words of the held ones: none", """
                begin() = 1
                16 * make(1, 4) = 1 ..
                commit(1) = 16
                collect(0) = 80
                counts = 0 16 0 0 0 1 1 0
                begin() = 2
                16 * make(2, 4) = 17 ..
                count(2) = 80
                make(2, 0) ! IllegalStateException
                """);
        script.run("used are then the words of the held ones: all, and no space comes free", """
                begin() = 1
                16 * make(1, 4) = 1 ..
                collect(16) = 0
                counts = 16 16 80 33 1 1 1 16
                make(1, 0) ! IllegalStateException
                collect(-1) = 0
                make(1, 0) ! IllegalStateException
                """);
        script.run("used are then the words of the held ones: all but one word", """
                begin() = 1
                15 * make(1, 4) = 1 ..
                make(1, 3) = 16
                begin() = 2
                make(2, 0) = 17
                make(1, 0) ! IllegalStateException
                abort(2) = 1
                make(1, 0) ! IllegalStateException
                collect(16) = 1
                count(2) = 79
                make(1, 1) ! IllegalStateException
                make(1, 0) = 18
                make(1, 0) ! IllegalStateException
                """);
        script.run("used: made since the flip, and those that it kept", """
                begin() = 1
                make(1, 4) = 1
                make(1, 2) = 2
                setRoot(1, 0, 1) = 1
                commit(1) = 3
                collect(-1) = 3
                count(2) = 5
                begin() = 2
                setRoot(2, 0, 0) = 1
                make(2, 1) = 3
                commit(2) = 2
                count(2) = 7
                collect(-1) = 7
                count(2) = 0
                """);
    }

    private static void handles(HeapScript script) {
        script.run("handles never given again: of a call that throws none is, of what is gone none", """
                begin() = 1
                make(1, 5) ! IllegalArgumentException
                make(1, 4) = 1
                15 * make(1, 4) = 2 ..
                3 * make(1, 0) ! IllegalStateException
                count(1) = 16
                abort(1) = 16
                collect(-1) = 80
                count(1) = 16
                begin() = 2
                make(2, 0) = 17
                collect(0) = -2
                begin() = 3
                make(3, 0) = 18
                counts = 2 18 2 3 1 3 1 1
                """);
    }
}
