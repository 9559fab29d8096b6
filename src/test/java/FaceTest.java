import java.lang.reflect.Constructor;
import java.lang.reflect.Field;
import java.lang.reflect.Method;
import java.lang.reflect.Modifier;
import java.util.Set;
import java.util.TreeSet;

/** The public face is the document's, line by line, and nothing else can be seen from outside. */
public final class FaceTest {
    private static final Due DUE = new Due();
    private static final Set<String> SEEN = new TreeSet<>();
    private static final Set<String> WANTED = new TreeSet<>();

    public static void main(String[] args) {
        lookAtTheClass();
        DUE.of("public final class FrameSamples {");
        DUE.is("public and final", FrameSamples.class.getModifiers(), Modifier.PUBLIC | Modifier.FINAL);
        DUE.is("without a package", FrameSamples.class.getPackageName().isEmpty(), true);
        DUE.of("public static final int NONE = -1;");
        there("public static final int NONE;");
        DUE.is("NONE", FrameSamples.NONE, -1);
        there(DUE.of("public FrameSamples();"));
        there(DUE.of("public boolean begin(int n);"));
        there(DUE.of("public boolean gate(int kind, int a, int b);"));
        there(DUE.of("public int look(int a, boolean reset);"));
        there(DUE.of("public int fault(int what, int a, int k);"));
        there(DUE.of("public int check(long looks);"));
        there(DUE.of("public long outcome(int look, int what);"));
        there(DUE.of("public long told(int check, int what);"));
        there(DUE.of("public long changes(int fault, int what);"));
        there(DUE.of("public long edge(int i, int what) throws ArithmeticException;"));
        there(DUE.of("public long run(long faults, long tells);"));
        there(DUE.of("public int total(int what); }"));
        nothingElse();
        DUE.end();
    }

    /** All that isn't private, written as in the document but without names of parameters. */
    private static void lookAtTheClass() {
        for (Field f : FrameSamples.class.getDeclaredFields()) {
            addVisible(f.getModifiers(), f.toString());
        }
        for (Constructor<?> c : FrameSamples.class.getDeclaredConstructors()) {
            addVisible(c.getModifiers(), c.toString());
        }
        for (Method m : FrameSamples.class.getDeclaredMethods()) {
            addVisible(m.getModifiers(), m.toString());
        }
    }

    private static void addVisible(int modifiers, String text) {
        if (!Modifier.isPrivate(modifiers)) {
            SEEN.add(text.replace("FrameSamples.", "").replace("java.lang.", "").replace(",", ", "));
        }
    }

    private static void there(String line) {
        String plain = line.replaceAll("(\\w+) \\w+([,)])", "$1$2").replaceAll(";.*", "");
        WANTED.add(plain);
        DUE.is("there is " + plain, SEEN.contains(plain), true);
    }

    private static void nothingElse() {
        for (String text : SEEN) {
            DUE.is("the document has " + text, WANTED.contains(text), true);
        }
        DUE.is("as many", SEEN.size(), WANTED.size());
        for (Method m : FrameSamples.class.getDeclaredMethods()) {
            DUE.is(m + " shares no name with the face",
                Modifier.isPrivate(m.getModifiers()) && isFaceName(m.getName()), false);
        }
        for (Class<?> inside : FrameSamples.class.getDeclaredClasses()) {
            DUE.is(inside + " is static and not public", inside.getModifiers()
                & (Modifier.STATIC | Modifier.PUBLIC | Modifier.PROTECTED), Modifier.STATIC);
        }
    }

    private static boolean isFaceName(String name) {
        return Set.of("begin", "gate", "look", "fault", "check", "outcome", "told", "changes", "edge",
            "run", "total").contains(name);
    }
}
