import java.lang.reflect.Executable;
import java.lang.reflect.Field;
import java.lang.reflect.Method;
import java.lang.reflect.Modifier;
import java.util.ArrayList;
import java.util.Arrays;
import java.util.List;
import java.util.TreeSet;

/** The public face, to the letter, and the rules of the language that can be seen from outside. */
public final class FaceTest {
    private static final String[] FACE = {
        "StableHeap()",
        "begin() IllegalStateException UnsupportedOperationException",
        "make(2) NoSuchElementException IllegalArgumentException IllegalStateException UnsupportedOperationException",
        "setInt(4) NoSuchElementException IndexOutOfBoundsException IllegalStateException"
            + " UnsupportedOperationException",
        "setReference(4) NoSuchElementException IndexOutOfBoundsException IllegalStateException"
            + " IllegalArgumentException UnsupportedOperationException",
        "setRoot(3) NoSuchElementException IndexOutOfBoundsException IllegalStateException"
            + " IllegalArgumentException UnsupportedOperationException",
        "getInt(3) NoSuchElementException IndexOutOfBoundsException IllegalStateException ArithmeticException",
        "getReference(3) NoSuchElementException IndexOutOfBoundsException IllegalStateException"
            + " ArithmeticException",
        "getRoot(2) NoSuchElementException IndexOutOfBoundsException IllegalStateException",
        "commit(1) NoSuchElementException UnsupportedOperationException",
        "abort(1) NoSuchElementException",
        "checkpoint()",
        "crash()",
        "collect(1)",
        "fields(1) NoSuchElementException",
        "lockedBy(2) NoSuchElementException",
        "count(1) IllegalArgumentException",
    };

    public static void main(String[] arguments) {
        List<String> faults = new ArrayList<>();
        face(faults);
        members(faults);
        faults.forEach(System.out::println);
        System.out.println(faults.isEmpty() ? "the face is as the document tells" : "the face is wrong");
        if (!faults.isEmpty()) {
            System.exit(1);
        }
    }

    private static void face(List<String> faults) {
        TreeSet<String> got = new TreeSet<>();
        Arrays.stream(StableHeap.class.getConstructors()).forEach(c -> got.add(told(c, "StableHeap")));
        for (Method method : StableHeap.class.getDeclaredMethods()) {
            if (Modifier.isPublic(method.getModifiers())) {
                got.add(told(method, method.getName()));
                if (method.getReturnType() != int.class || Modifier.isStatic(method.getModifiers())) {
                    faults.add(method + " is no method of an object with an int for an answer");
                }
            }
        }
        TreeSet<String> due = new TreeSet<>(Arrays.asList(FACE));
        if (!got.equals(due)) {
            faults.add("the face is " + got + ", due is " + due);
        }
        if (!Modifier.isFinal(StableHeap.class.getModifiers()) || StableHeap.class.getPackageName().length() != 0) {
            faults.add("the class is not final, or in a package");
        }
    }

    private static String told(Executable member, String name) {
        StringBuilder text = new StringBuilder(name).append('(');
        text.append(member.getParameterCount() == 0 ? "" : "" + member.getParameterCount()).append(')');
        for (Class<?> thrown : member.getExceptionTypes()) {
            text.append(' ').append(thrown.getSimpleName());
        }
        if (!Arrays.stream(member.getParameterTypes()).allMatch(type -> type == int.class)) {
            text.append(" with a parameter that is no int");
        }
        return text.toString();
    }

    private static void members(List<String> faults) {
        TreeSet<String> faceNames = new TreeSet<>();
        for (Method method : StableHeap.class.getMethods()) {
            faceNames.add(method.getName());
        }
        for (Method method : StableHeap.class.getDeclaredMethods()) {
            int modifiers = method.getModifiers();
            if (!Modifier.isPublic(modifiers) && !Modifier.isPrivate(modifiers)) {
                faults.add(method + " is neither of the face nor private");
            }
            if (Modifier.isPrivate(modifiers) && faceNames.contains(method.getName())) {
                faults.add(method + " is private and bears the name of a public one");
            }
        }
        for (Field field : StableHeap.class.getDeclaredFields()) {
            int modifiers = field.getModifiers();
            if (!Modifier.isPrivate(modifiers) || Modifier.isStatic(modifiers) && !Modifier.isFinal(modifiers)) {
                faults.add(field + " is not private, or changeable state of the class");
            }
        }
        for (Class<?> inside : StableHeap.class.getDeclaredClasses()) {
            if (!Modifier.isStatic(inside.getModifiers()) || Modifier.isPublic(inside.getModifiers())) {
                faults.add(inside + " is not static, or public");
            }
        }
    }
}
