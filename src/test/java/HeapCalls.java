import java.lang.reflect.InvocationTargetException;
import java.lang.reflect.Method;
import java.lang.reflect.Modifier;
import java.util.Arrays;
import java.util.HashMap;
import java.util.Map;

/** One heap whose calls are made by name: each answers a number as a text, or the name of what is thrown. */
final class HeapCalls {
    /** Nothing is promised of a heap after so many calls. */
    static final int MOST_CALLS = 512;

    private static final int COUNTS = 8;
    private static final int ROOTS = 4;
    private static final Map<String, Method> METHODS = new HashMap<>();

    static {
        for (Method method : StableHeap.class.getDeclaredMethods()) {
            if (Modifier.isPublic(method.getModifiers())) {
                METHODS.put(method.getName(), method);
            }
        }
    }

    private final StableHeap heap = new StableHeap();
    private int made;

    String call(String name, Integer... arguments) {
        made++;
        Method method = METHODS.get(name);
        if (method == null || method.getParameterCount() != arguments.length) {
            return "no such call: " + name + Arrays.toString(arguments);
        }
        try {
            return method.invoke(heap, (Object[]) arguments).toString();
        } catch (InvocationTargetException e) {
            return e.getCause().getClass().getSimpleName();
        } catch (IllegalAccessException e) {
            return e.toString();
        }
    }

    int made() {
        return made;
    }

    String counts() {
        StringBuilder text = new StringBuilder(call("count", 0));
        for (int what = 1; what < COUNTS; what++) {
            text.append(' ').append(call("count", what));
        }
        return text.toString();
    }

    /** All that calls can tell: what is in every place now, and again when the active transactions are aborted. */
    String everything() {
        StringBuilder text = new StringBuilder();
        int[] sizes = look(text);
        int active = count(4);
        for (int transaction = count(5); transaction > 0 && active > 0; transaction--) {
            if (!call("getRoot", transaction, ROOTS).equals("NoSuchElementException")) {
                active--;
                read(text, transaction, sizes);
                text.append(" abort ").append(call("abort", transaction));
                text.append(" log ").append(call("count", 3));
            }
        }
        text.append(" checkpoint ").append(call("checkpoint"));
        read(text, Integer.parseInt(call("begin")), sizes);
        text.append(" crash ").append(call("crash"));
        text.append(" collect ").append(call("collect", -1)).append(' ');
        look(text);
        return text.toString();
    }

    private int count(int what) {
        return Integer.parseInt(call("count", what));
    }

    private int[] look(StringBuilder text) {
        text.append(counts());
        for (int root = 0; root < ROOTS; root++) {
            text.append(" root ").append(call("lockedBy", 0, root));
        }
        int[] sizes = new int[count(1) + 1];
        for (int handle = 1; handle < sizes.length; handle++) {
            String fields = call("fields", handle);
            text.append(" object ").append(fields);
            if (!fields.endsWith("Exception")) {
                sizes[handle] = Integer.parseInt(fields);
                text.append(" by ").append(call("lockedBy", handle, 0));
            }
        }
        return sizes;
    }

    private void read(StringBuilder text, int transaction, int[] sizes) {
        for (int root = 0; root < ROOTS; root++) {
            text.append(" root ").append(call("getRoot", transaction, root));
        }
        for (int handle = 1; handle < sizes.length; handle++) {
            for (int field = 0; field < sizes[handle]; field++) {
                String value = call("getInt", transaction, handle, field);
                if (value.equals("ArithmeticException")) {
                    value = "to " + call("getReference", transaction, handle, field);
                }
                text.append(" field ").append(value);
            }
        }
    }
}
