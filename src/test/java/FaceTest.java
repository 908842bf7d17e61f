import java.lang.reflect.Constructor;
import java.lang.reflect.Field;
import java.lang.reflect.Member;
import java.lang.reflect.Method;
import java.lang.reflect.Modifier;
import java.util.Set;
import java.util.TreeSet;

/** The class has the document's face and no more. */
public final class FaceTest {
    private static final String[] FACE = {
        "public static final int HoleTemplates.NONE",
        "public HoleTemplates()",
        "public boolean HoleTemplates.type(char)",
        "public int HoleTemplates.wipe()",
        "public int HoleTemplates.add() throws java.lang.IllegalStateException",
        "public int HoleTemplates.clear()",
        "public int HoleTemplates.compile() throws java.lang.IllegalArgumentException",
        "public boolean HoleTemplates.accepts()",
        "public int HoleTemplates.fault()",
        "public int HoleTemplates.hole(int)",
        "public int HoleTemplates.item(int) throws java.lang.IndexOutOfBoundsException,java.lang.IllegalStateException",
        "public int HoleTemplates.forget(int) throws java.lang.IndexOutOfBoundsException",
        "public int HoleTemplates.write() throws java.lang.UnsupportedOperationException,java.lang.IllegalStateException",
        "public int HoleTemplates.written()",
        "public char HoleTemplates.letter(int)",
    };

    public static void main(String[] args) {
        Check check = new Check("FaceTest");
        Set<String> due = new TreeSet<>(Set.of(FACE));
        Set<String> got = new TreeSet<>();
        for (Field f : HoleTemplates.class.getDeclaredFields()) {
            note(got, f, f.toString());
        }
        for (Constructor<?> c : HoleTemplates.class.getDeclaredConstructors()) {
            note(got, c, c.toString());
        }
        for (Method m : HoleTemplates.class.getDeclaredMethods()) {
            note(got, m, m.toString());
        }
        check.same("what is not private", due, got);
        check.same("public and final", Modifier.PUBLIC | Modifier.FINAL, HoleTemplates.class.getModifiers());
        check.same("NONE", -1, HoleTemplates.NONE);
        for (Class<?> inside : HoleTemplates.class.getDeclaredClasses()) {
            check.same(inside + " is static", true, Modifier.isStatic(inside.getModifiers()));
        }
        check.end();
    }

    private static void note(Set<String> got, Member m, String text) {
        if (!Modifier.isPrivate(m.getModifiers())) {
            got.add(text);
        }
    }
}
