import java.lang.reflect.Constructor;
import java.lang.reflect.Field;
import java.lang.reflect.Method;
import java.lang.reflect.Modifier;
import java.util.Set;
import java.util.TreeSet;

/** The public face is the document's, and nothing else can be seen from outside. */
public final class FaceTest {
    private static final Due DUE = new Due();

    public static void main(String[] args) {
        Set<String> want = new TreeSet<>(Set.of(
            "public static final int FrameSamples.NONE",
            "public FrameSamples()",
            "public boolean FrameSamples.begin(int)",
            "public boolean FrameSamples.gate(int,int,int)",
            "public int FrameSamples.look(int,boolean)",
            "public int FrameSamples.fault(int,int,int)",
            "public int FrameSamples.check(long)",
            "public long FrameSamples.outcome(int,int)",
            "public long FrameSamples.told(int,int)",
            "public long FrameSamples.changes(int,int)",
            "public long FrameSamples.edge(int,int) throws java.lang.ArithmeticException",
            "public long FrameSamples.run(long,long)",
            "public int FrameSamples.total(int)"));
        Set<String> seen = new TreeSet<>();
        for (Field f : FrameSamples.class.getDeclaredFields()) {
            addVisible(seen, f.getModifiers(), f.toString());
        }
        for (Constructor<?> c : FrameSamples.class.getDeclaredConstructors()) {
            addVisible(seen, c.getModifiers(), c.toString());
        }
        for (Method m : FrameSamples.class.getDeclaredMethods()) {
            addVisible(seen, m.getModifiers(), m.toString());
            DUE.is(m + " shares no name with the face",
                Modifier.isPrivate(m.getModifiers()) && isFaceName(m.getName()), false);
        }
        for (String s : want) {
            DUE.is("there is " + s, seen.contains(s), true);
        }
        for (String s : seen) {
            DUE.is("the document has " + s, want.contains(s), true);
        }
        DUE.is("public and final", FrameSamples.class.getModifiers(), Modifier.PUBLIC | Modifier.FINAL);
        DUE.is("NONE", FrameSamples.NONE, -1);
        DUE.end();
    }

    private static void addVisible(Set<String> seen, int modifiers, String text) {
        if (!Modifier.isPrivate(modifiers)) {
            seen.add(text);
        }
    }

    private static boolean isFaceName(String name) {
        return Set.of("begin", "gate", "look", "fault", "check", "outcome", "told", "changes", "edge",
            "run", "total").contains(name);
    }
}
