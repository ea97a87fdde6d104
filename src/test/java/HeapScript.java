import java.lang.reflect.InvocationTargetException;
import java.lang.reflect.Method;
import java.util.regex.Matcher;
import java.util.regex.Pattern;

/**
 * Plays runs of calls, each on a new StableHeap. A line is a call with what is due: `call(1, 2) = 3` an
 * answer, `call(1, 2) ! E` an exception. `5 * call()` calls five times; `= 3 ..` is an answer that rises by
 * one each time. `counts = a b c d e f g h` asks count(0) to count(7). What follows # is a comment.
 * A call that throws is checked to have changed nothing, but for an ArithmeticException, which may lock.
 */
final class HeapScript {
    private static final int MOST_CALLS = 512;
    private static final int COUNTS = 8;
    private static final int ROOTS = 4;
    private static final int MOST_HANDLES_SEEN = 8;
    private static final Pattern CALL =
            Pattern.compile("(?:(\\d+) \\* )?(\\w+)\\(([^)]*)\\) (?:= (-?\\d+)( \\.\\.)?|! (\\w+))");

    private int lines;
    private int wrong;
    private String title;
    private StableHeap heap;
    private int calls;

    void run(String title, String script) {
        this.title = title;
        heap = new StableHeap();
        calls = 0;
        for (String line : script.split("\n")) {
            String bare = line.replaceAll("#.*", "").trim();
            if (!bare.isEmpty()) {
                lines++;
                playLine(bare);
            }
        }
        if (calls > MOST_CALLS) {
            tell("the run makes " + calls + " calls, and nothing is promised after " + MOST_CALLS);
        }
    }

    void finish() {
        System.out.println(lines + " lines played, " + wrong + " wrong");
        if (wrong != 0 || lines == 0) {
            System.exit(1);
        }
    }

    private void playLine(String line) {
        if (line.startsWith("counts = ")) {
            expect("counts", line.substring("counts = ".length()), counts());
            return;
        }
        Matcher parts = CALL.matcher(line);
        if (!parts.matches()) {
            tell("no such line: " + line);
            return;
        }
        int times = parts.group(1) == null ? 1 : Integer.parseInt(parts.group(1));
        for (int i = 0; i < times; i++) {
            playCall(line, parts, i);
        }
    }

    private void playCall(String line, Matcher parts, int turn) {
        boolean throwing = parts.group(6) != null;
        boolean mayLock = "ArithmeticException".equals(parts.group(6));
        String before = throwing && !mayLock ? seen() : "";
        String got = outcome(parts.group(2), numbers(parts.group(3)));
        String due = parts.group(6);
        if (!throwing) {
            int rise = parts.group(5) == null ? 0 : turn;
            due = Integer.toString(Integer.parseInt(parts.group(4)) + rise);
        }
        expect(line, due, got);
        if (throwing && !mayLock) {
            expect(line + ": what is seen behind it", before, seen());
        }
    }

    private String outcome(String name, Object[] arguments) {
        calls++;
        Class<?>[] types = new Class<?>[arguments.length];
        java.util.Arrays.fill(types, int.class);
        try {
            Method method = StableHeap.class.getMethod(name, types);
            return method.invoke(heap, arguments).toString();
        } catch (InvocationTargetException e) {
            return e.getCause().getClass().getSimpleName();
        } catch (ReflectiveOperationException e) {
            return e.toString();
        }
    }

    private static Object[] numbers(String text) {
        if (text.isBlank()) {
            return new Object[0];
        }
        String[] words = text.split(",");
        Object[] numbers = new Object[words.length];
        for (int i = 0; i < words.length; i++) {
            numbers[i] = Integer.parseInt(words[i].trim());
        }
        return numbers;
    }

    private String counts() {
        StringBuilder text = new StringBuilder();
        for (int what = 0; what < COUNTS; what++) {
            text.append(what == 0 ? "" : " ").append(outcome("count", new Object[] {what}));
        }
        return text.toString();
    }

    private String seen() {
        StringBuilder text = new StringBuilder(counts());
        for (int root = 0; root < ROOTS; root++) {
            text.append(" root ").append(outcome("lockedBy", new Object[] {0, root}));
        }
        int handles = Math.min(heap.count(1), MOST_HANDLES_SEEN);
        calls++;
        for (int handle = 1; handle <= handles; handle++) {
            text.append(" object ").append(outcome("lockedBy", new Object[] {handle, 0}));
        }
        return text.toString();
    }

    private void expect(String line, String due, String got) {
        if (!due.equals(got)) {
            tell(line + " answered " + got + ", due is " + due);
        }
    }

    private void tell(String fault) {
        wrong++;
        System.out.println(title + ": " + fault);
    }
}
