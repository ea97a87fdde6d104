import java.io.IOException;
import java.lang.reflect.Method;
import java.lang.reflect.Modifier;
import java.nio.file.Files;
import java.nio.file.Path;
import java.util.Arrays;
import java.util.HashMap;
import java.util.List;
import java.util.Map;
import java.util.regex.Matcher;
import java.util.regex.Pattern;
import java.util.stream.Stream;

/** README.md: the answers that its example tells are those of the class, and it names every call and every test. */
public final class ReadmeTest {
    private static final Pattern CALL =
            Pattern.compile("(?:int (\\w+) = )?heap\\.(\\w+)\\(([^)]*)\\); +// (-?\\d+|\\w+Exception)(?:: .+)?");

    private final Map<String, Integer> variables = new HashMap<>();
    private HeapCalls heap;
    private int calls;
    private int wrong;

    public static void main(String[] arguments) throws IOException {
        ReadmeTest test = new ReadmeTest();
        String text = Files.readString(Path.of("README.md"));
        test.playExample(text);
        test.checkCalls(text);
        test.checkTests(text);
        System.out.println(test.calls + " calls of README.md played, " + test.wrong + " faults");
        if (test.wrong != 0 || test.calls == 0) {
            System.exit(1);
        }
    }

    private void playExample(String text) {
        int start = text.indexOf("```java\n");
        int end = text.indexOf("```", start + 3);
        if (start < 0 || end < 0) {
            tell("there is no example");
            return;
        }
        List<String> lines = Arrays.asList(text.substring(start, end).split("\n"));
        for (String line : lines.subList(1, lines.size())) {
            if (line.equals("StableHeap heap = new StableHeap();")) {
                heap = new HeapCalls();
            } else if (!line.isBlank()) {
                playLine(line);
            }
        }
    }

    private void playLine(String line) {
        Matcher parts = CALL.matcher(line);
        if (heap == null || !parts.matches()) {
            tell("no call with an answer: " + line);
            return;
        }
        calls++;
        String got = heap.call(parts.group(2), numbers(parts.group(3)));
        if (!got.equals(parts.group(4))) {
            tell(line + " answered " + got);
        } else if (parts.group(1) != null) {
            variables.put(parts.group(1), Integer.valueOf(got));
        }
    }

    private Integer[] numbers(String text) {
        return Stream.of(text.split(", "))
                .filter(word -> !word.isEmpty())
                .map(word -> variables.containsKey(word) ? variables.get(word) : Integer.valueOf(word))
                .toArray(Integer[]::new);
    }

    private void checkCalls(String text) {
        for (Method method : StableHeap.class.getDeclaredMethods()) {
            if (Modifier.isPublic(method.getModifiers()) && !text.contains("| `" + method.getName() + "(")) {
                tell(method.getName() + " is not in the table of calls");
            }
        }
    }

    private void checkTests(String text) throws IOException {
        try (Stream<Path> files = Files.list(Path.of("src/test/java"))) {
            files.map(file -> file.getFileName().toString().replace(".java", ""))
                    .filter(name -> name.endsWith("Test") && !text.contains("`" + name + "`"))
                    .forEach(name -> tell(name + " is not in the table of tests"));
        }
    }

    private void tell(String fault) {
        wrong++;
        System.out.println(fault);
    }
}
