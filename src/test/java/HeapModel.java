import java.util.ArrayList;
import java.util.HashMap;
import java.util.List;
import java.util.Map;
import java.util.TreeMap;
import java.util.TreeSet;

/**
 * The document once more, told as plainly as it can be and unlike the program: a log of real records, names
 * for what can be locked, and sets. Each call answers a number, or the name of what is thrown.
 */
final class HeapModel {
    private static final String NO_ELEMENT = "NoSuchElementException";
    private static final String NO_INDEX = "IndexOutOfBoundsException";
    private static final String BAD_STATE = "IllegalStateException";
    private static final String BAD_ARGUMENT = "IllegalArgumentException";
    private static final String BAD_KIND = "ArithmeticException";
    private static final String NO_ROOM = "UnsupportedOperationException";

    private record Value(boolean isReference, int number) { }

    private record Entry(int transaction, int words, String place, Value before) { }

    private final Map<String, Value> places = new HashMap<>();
    private final Map<Integer, Integer> sizes = new TreeMap<>();
    private final Map<String, Integer> locks = new HashMap<>();
    private final TreeSet<Integer> active = new TreeSet<>();
    private List<Entry> log = new ArrayList<>();
    private int handles;
    private int begun;
    private int used;
    private int flips;

    HeapModel() {
        for (int root = 0; root < 4; root++) {
            places.put("root" + root, new Value(true, 0));
        }
    }

    String begin() {
        if (active.size() == 3) {
            return BAD_STATE;
        }
        if (!hasRoom(1)) {
            return NO_ROOM;
        }
        begun++;
        active.add(begun);
        log.add(new Entry(begun, 1, null, null));
        return "" + begun;
    }

    String make(int transaction, int n) {
        if (!active.contains(transaction)) {
            return NO_ELEMENT;
        }
        if (n < 0 || n > 4) {
            return BAD_ARGUMENT;
        }
        if (used + n + 1 > 80) {
            return BAD_STATE;
        }
        if (!hasRoom(2)) {
            return NO_ROOM;
        }
        handles++;
        used += n + 1;
        sizes.put(handles, n);
        for (int field = 0; field < n; field++) {
            places.put(fieldName(handles, field), new Value(false, 0));
        }
        locks.put("object" + handles, transaction);
        log.add(new Entry(transaction, 2, null, null));
        return "" + handles;
    }

    String setInt(int transaction, int object, int field, int value) {
        String wrong = wrongField(transaction, object, field);
        return wrong != null ? wrong
                : set(transaction, "object" + object, fieldName(object, field), new Value(false, value));
    }

    String setReference(int transaction, int object, int field, int target) {
        String wrong = wrongField(transaction, object, field);
        return wrong != null ? wrong
                : set(transaction, "object" + object, fieldName(object, field), new Value(true, target));
    }

    String setRoot(int transaction, int root, int target) {
        String wrong = wrongRoot(transaction, root);
        return wrong != null ? wrong : set(transaction, "root" + root, "root" + root, new Value(true, target));
    }

    String getInt(int transaction, int object, int field) {
        return get(transaction, object, field, false);
    }

    String getReference(int transaction, int object, int field) {
        return get(transaction, object, field, true);
    }

    String getRoot(int transaction, int root) {
        String wrong = wrongRoot(transaction, root);
        if (wrong != null) {
            return wrong;
        }
        locks.put("root" + root, transaction);
        return "" + places.get("root" + root).number();
    }

    String commit(int transaction) {
        if (!active.contains(transaction)) {
            return NO_ELEMENT;
        }
        if (!hasRoom(1)) {
            return NO_ROOM;
        }
        log.add(new Entry(transaction, 1, null, null));
        return "" + leave(transaction);
    }

    String abort(int transaction) {
        if (!active.contains(transaction)) {
            return NO_ELEMENT;
        }
        List<Entry> others = new ArrayList<>();
        // Backwards, so that what was before the first set is put last.
        for (int i = log.size() - 1; i >= 0; i--) {
            Entry entry = log.get(i);
            if (entry.transaction() != transaction) {
                others.add(0, entry);
            } else if (entry.place() != null) {
                places.put(entry.place(), entry.before());
            }
        }
        log = others;
        return "" + leave(transaction);
    }

    String checkpoint() {
        log.removeIf(entry -> !active.contains(entry.transaction()));
        return "" + wordsInLog();
    }

    String crash() {
        int were = active.size();
        for (int transaction : new ArrayList<>(active)) {
            abort(transaction);
        }
        log.clear();
        return "" + were;
    }

    String collect(int copies) {
        TreeSet<Integer> held = held();
        if (copies >= 0 && copies < held.size()) {
            return "" + (-1 - Integer.parseInt(crash()));
        }
        int before = used;
        used = 0;
        sizes.keySet().retainAll(held);
        for (int n : sizes.values()) {
            used += n + 1;
        }
        flips++;
        checkpoint();
        return "" + (before - used);
    }

    String fields(int object) {
        return sizes.containsKey(object) ? "" + sizes.get(object) : NO_ELEMENT;
    }

    String lockedBy(int object, int root) {
        boolean isThere = object == 0 ? root >= 0 && root <= 3 : sizes.containsKey(object);
        if (!isThere) {
            return NO_ELEMENT;
        }
        return "" + locks.getOrDefault(object == 0 ? "root" + root : "object" + object, 0);
    }

    String count(int what) {
        if (what < 0 || what > 7) {
            return BAD_ARGUMENT;
        }
        int[] counts = {sizes.size(), handles, used, wordsInLog(), active.size(), begun, flips, held().size()};
        return "" + counts[what];
    }

    List<Integer> activeTransactions() {
        return new ArrayList<>(active);
    }

    List<Integer> objectsThere() {
        return new ArrayList<>(sizes.keySet());
    }

    private static String fieldName(int object, int field) {
        return object + "." + field;
    }

    private int wordsInLog() {
        return log.stream().mapToInt(Entry::words).sum();
    }

    private boolean hasRoom(int words) {
        return wordsInLog() + words <= 150;
    }

    private int leave(int transaction) {
        int before = locks.size();
        locks.values().removeIf(owner -> owner == transaction);
        active.remove(transaction);
        return before - locks.size();
    }

    private String wrongField(int transaction, int object, int field) {
        if (!active.contains(transaction) || !sizes.containsKey(object)) {
            return NO_ELEMENT;
        }
        if (field < 0 || field >= sizes.get(object)) {
            return NO_INDEX;
        }
        return locks.getOrDefault("object" + object, transaction) == transaction ? null : BAD_STATE;
    }

    private String wrongRoot(int transaction, int root) {
        if (!active.contains(transaction)) {
            return NO_ELEMENT;
        }
        if (root < 0 || root > 3) {
            return NO_INDEX;
        }
        return locks.getOrDefault("root" + root, transaction) == transaction ? null : BAD_STATE;
    }

    private String set(int transaction, String locked, String place, Value value) {
        if (value.isReference() && value.number() != 0 && !sizes.containsKey(value.number())) {
            return BAD_ARGUMENT;
        }
        if (!hasRoom(3)) {
            return NO_ROOM;
        }
        locks.put(locked, transaction);
        log.add(new Entry(transaction, 3, place, places.put(place, value)));
        return "1";
    }

    private String get(int transaction, int object, int field, boolean reference) {
        String wrong = wrongField(transaction, object, field);
        if (wrong != null) {
            return wrong;
        }
        locks.put("object" + object, transaction);
        Value value = places.get(fieldName(object, field));
        return value.isReference() == reference ? "" + value.number() : BAD_KIND;
    }

    private TreeSet<Integer> held() {
        TreeSet<Integer> held = new TreeSet<>();
        for (int root = 0; root < 4; root++) {
            addTarget(held, places.get("root" + root));
        }
        for (int object : sizes.keySet()) {
            if (locks.containsKey("object" + object)) {
                held.add(object);
            }
        }
        Map<String, Value> firstBefore = new HashMap<>();
        for (Entry entry : log) {
            if (entry.place() != null && active.contains(entry.transaction())) {
                firstBefore.putIfAbsent(entry.place(), entry.before());
            }
        }
        firstBefore.values().forEach(value -> addTarget(held, value));
        int before;
        do {
            before = held.size();
            for (int object : new ArrayList<>(held)) {
                for (int field = 0; field < sizes.get(object); field++) {
                    addTarget(held, places.get(fieldName(object, field)));
                }
            }
        } while (held.size() > before);
        return held;
    }

    private static void addTarget(TreeSet<Integer> held, Value value) {
        if (value.isReference() && value.number() != 0) {
            held.add(value.number());
        }
    }
}
