import java.lang.reflect.Constructor;
import java.lang.reflect.Field;
import java.lang.reflect.Method;
import java.lang.reflect.Modifier;
import java.util.Arrays;
import java.util.TreeSet;

/** The face is the document's: what it lists, and nothing else that could be used from outside. */
public final class FaceTest {
    private static final String[] FACE = {
        "public final class CallRows",
        "public static final int CallRows.NONE",
        "public CallRows(int)",
        "public int CallRows.program(int,int,int)",
        "public int CallRows.cell(int,long)",
        "public int CallRows.formal(int,int,int)",
        "public int CallRows.call(int,int)",
        "public int CallRows.actual(int,int)",
        "public int CallRows.enter()",
        "public int CallRows.set(int,long)",
        "public int CallRows.leave(long)",
        "public long CallRows.get(int) throws java.lang.IllegalArgumentException",
        "public int CallRows.cancel(int,int)",
        "public int CallRows.shared(int)",
        "public int CallRows.state(int)",
        "public long CallRows.returned()",
        "public int CallRows.count(int)",
    };

    public static void main(String[] args) {
        TreeSet<String> seen = new TreeSet<>();
        seen.add(CallRows.class.toGenericString());
        for (Field f : CallRows.class.getDeclaredFields()) {
            boolean hidden = Modifier.isPrivate(f.getModifiers());
            if (!hidden) {
                seen.add(f.toString());
            }
            boolean lasting = !Modifier.isStatic(f.getModifiers()) || Modifier.isFinal(f.getModifiers());
            Checks.due("a static field is final: " + f, lasting ? 1 : 0, 1);
        }
        for (Constructor<?> c : CallRows.class.getDeclaredConstructors()) {
            seen.add(c.toString());
        }
        TreeSet<String> publicNames = new TreeSet<>();
        for (Method m : CallRows.class.getDeclaredMethods()) {
            if (!Modifier.isPrivate(m.getModifiers())) {
                seen.add(m.toString());
                Checks.due("a public name stands once: " + m, publicNames.add(m.getName()) ? 1 : 0, 1);
            }
        }
        for (Method m : CallRows.class.getDeclaredMethods()) {
            boolean clash = Modifier.isPrivate(m.getModifiers()) && publicNames.contains(m.getName());
            Checks.due("no private method has a public one's name: " + m, clash ? 1 : 0, 0);
        }
        TreeSet<String> due = new TreeSet<>(Arrays.asList(FACE));
        for (String one : due) {
            Checks.due("the face has " + one, seen.contains(one) ? 1 : 0, 1);
        }
        for (String one : seen) {
            Checks.due("the face alone has " + one, due.contains(one) ? 1 : 0, 1);
        }
        Checks.due("NONE", CallRows.NONE, -1);
        Checks.end();
    }
}
