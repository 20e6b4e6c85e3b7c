import java.lang.reflect.Constructor;
import java.lang.reflect.Field;
import java.lang.reflect.Method;
import java.lang.reflect.Modifier;
import java.util.Arrays;
import java.util.Set;
import java.util.TreeSet;

/** The class shows the document's face and nothing else. */
public final class FaceTest {
    private static final String[] FACE = {
        "public PulseRows(int)",
        "public int PulseRows.edge(long)",
        "public int PulseRows.nibble(int) throws java.lang.ArrayIndexOutOfBoundsException",
        "public int PulseRows.check(int)",
        "public int PulseRows.slow(int)",
        "public int PulseRows.row(int,int)",
        "public int PulseRows.calibrate(long) throws java.lang.ArithmeticException",
        "public int PulseRows.parity(int)",
        "public int PulseRows.bounce(boolean,long)",
        "public int PulseRows.faults()",
        "public boolean PulseRows.marked()",
        "public int PulseRows.turn(boolean,boolean)",
    };

    public static void main(String[] args) {
        Set<String> shown = new TreeSet<>();
        for (Constructor<?> c : PulseRows.class.getDeclaredConstructors()) {
            note(shown, c.getModifiers(), c.toString());
        }
        for (Method m : PulseRows.class.getDeclaredMethods()) {
            note(shown, m.getModifiers(), m.toString());
        }
        for (Field f : PulseRows.class.getDeclaredFields()) {
            note(shown, f.getModifiers(), f.toString());
        }
        Set<String> due = new TreeSet<>(Arrays.asList(FACE));
        if (!shown.equals(due)) {
            Due.note("the face is " + shown + ", due is " + due);
        }
        int modifiers = PulseRows.class.getModifiers();
        Due.is("public and final", Modifier.isPublic(modifiers) && Modifier.isFinal(modifiers), true);
        Due.is("a class of its own, above it Object", PulseRows.class.getSuperclass() == Object.class, true);
        Due.is("interfaces of it", PulseRows.class.getInterfaces().length, 0);
        for (Class<?> inside : PulseRows.class.getDeclaredClasses()) {
            Due.is(inside + " is shown", isShown(inside.getModifiers()), false);
            Due.is(inside + " is static", Modifier.isStatic(inside.getModifiers()), true);
        }
        Due.end();
    }

    private static boolean isShown(int modifiers) {
        return Modifier.isPublic(modifiers) || Modifier.isProtected(modifiers);
    }

    private static void note(Set<String> shown, int modifiers, String member) {
        if (!Modifier.isPrivate(modifiers)) {
            shown.add(member);
        }
    }
}
