import java.util.ArrayList;
import java.util.HashSet;
import java.util.List;
import java.util.Set;
import java.util.regex.Matcher;
import java.util.regex.Pattern;

/**
 * Plays runs of calls, each on a new StableHeap. A line is a call with what is due: `call(1, 2) = 3` an
 * answer, `call(1, 2) ! E` an exception. `5 * call()` calls five times; `= 3 ..` is an answer that rises by
 * one each time. `counts = a b c d e f g h` asks count(0) to count(7). What follows # is a comment.
 * A call that is due to throw, or only looks, is checked to change nothing: two new heaps play all that has
 * changed the run's heap so far, one of them that call too, and are then asked for everything.
 */
final class HeapScript {
    private static final Set<String> LOOKS = Set.of("count", "fields", "lockedBy");
    private static final Pattern CALL =
            Pattern.compile("(?:(\\d+) \\* )?(\\w+)\\(([^)]*)\\) (?:= (-?\\d+)( \\.\\.)?|! (\\w+))");

    private record Call(String name, Integer[] arguments) { }

    private final Set<String> titles = new HashSet<>();
    private int lines;
    private int wrong;
    private String title;
    private HeapCalls heap;
    private List<Call> changes;

    void run(String title, String script) {
        this.title = title;
        heap = new HeapCalls();
        changes = new ArrayList<>();
        if (!titles.add(title)) {
            tell("two runs have this title");
        }
        for (String line : script.split("\n")) {
            String bare = line.replaceAll("#.*", "").trim();
            if (!bare.isEmpty()) {
                lines++;
                playLine(bare);
            }
        }
        checkCalls(heap);
    }

    void finish() {
        System.out.println(titles.size() + " runs of " + lines + " lines played, " + wrong + " wrong");
        if (wrong != 0 || lines == 0) {
            System.exit(1);
        }
    }

    private void playLine(String line) {
        if (line.startsWith("counts = ")) {
            expect("counts", line.substring("counts = ".length()), heap.counts());
            return;
        }
        Matcher parts = CALL.matcher(line);
        if (!parts.matches()) {
            tell("no such line: " + line);
            return;
        }
        int times = parts.group(1) == null ? 1 : Integer.parseInt(parts.group(1));
        Call call = new Call(parts.group(2), numbers(parts.group(3)));
        for (int i = 0; i < times; i++) {
            String due = parts.group(6);
            if (due == null) {
                int rise = parts.group(5) == null ? 0 : i;
                due = Integer.toString(Integer.parseInt(parts.group(4)) + rise);
            }
            playCall(line, call, due);
        }
    }

    private void playCall(String line, Call call, String due) {
        expect(line, due, make(heap, call));
        if (due.equals("ArithmeticException")) {
            // A read of the right kind locks just as much.
            Call right = new Call(call.name.equals("getInt") ? "getReference" : "getInt", call.arguments);
            expectSame(line, call, right);
            changes.add(call);
        } else if (due.endsWith("Exception") || LOOKS.contains(call.name)) {
            expectSame(line, call, null);
        } else {
            changes.add(call);
        }
    }

    private void expectSame(String line, Call call, Call other) {
        expect(line + ": everything behind it", everythingBehind(other), everythingBehind(call));
    }

    private String everythingBehind(Call last) {
        HeapCalls twin = new HeapCalls();
        changes.forEach(call -> make(twin, call));
        if (last != null) {
            make(twin, last);
        }
        String everything = twin.everything();
        checkCalls(twin);
        return everything;
    }

    private static String make(HeapCalls heap, Call call) {
        return heap.call(call.name, call.arguments);
    }

    private static Integer[] numbers(String text) {
        if (text.isBlank()) {
            return new Integer[0];
        }
        String[] words = text.split(",");
        Integer[] numbers = new Integer[words.length];
        for (int i = 0; i < words.length; i++) {
            numbers[i] = Integer.valueOf(words[i].trim());
        }
        return numbers;
    }

    private void checkCalls(HeapCalls played) {
        if (played.made() > HeapCalls.MOST_CALLS) {
            tell("a heap is called " + played.made() + " times, and nothing is promised after " + HeapCalls.MOST_CALLS);
        }
    }

    private void expect(String line, String due, String got) {
        if (!due.equals(got)) {
            tell(line + " answered " + got + ", due is " + due);
        }
    }

    private void tell(String fault) {
        wrong++;
        System.out.println(title + ": " + fault);
    }
}
