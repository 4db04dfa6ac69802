import java.lang.reflect.Constructor;
import java.lang.reflect.Field;
import java.lang.reflect.Method;
import java.lang.reflect.Modifier;
import java.util.Arrays;
import java.util.TreeSet;

/** The class shows the document's face and nothing more. */
public final class FaceTest {
    private static final String INDEX = " throws java.lang.IndexOutOfBoundsException";
    private static final String STATE = " throws java.lang.IllegalStateException";
    private static final String BOTH = INDEX + ",java.lang.IllegalStateException";
    private static final TreeSet<String> FACE = new TreeSet<>(Arrays.asList(
            "public static final int TwinWrites.NONE",
            "public static final int TwinWrites.FULL",
            "public static final int TwinWrites.LOST",
            "public TwinWrites()",
            "public int TwinWrites.change(int,int,int,int,int)" + BOTH,
            "public int TwinWrites.read(int,int)" + BOTH,
            "public int TwinWrites.got()",
            "public int TwinWrites.sync()" + STATE,
            "public int TwinWrites.checkpoint()" + STATE,
            "public void TwinWrites.power(int)" + INDEX,
            "public int TwinWrites.recover()" + STATE,
            "public int TwinWrites.cut()" + STATE,
            "public int TwinWrites.disk(int,int,int)" + INDEX,
            "public int TwinWrites.frame(int,int)" + INDEX,
            "public int TwinWrites.count(int)" + INDEX));

    private static final Due due = new Due();

    public static void main(String[] args) {
        TreeSet<String> seen = seen();
        for (String member : FACE) {
            due.is("the face has " + member, () -> seen.contains(member) ? 1 : 0, 1);
        }
        for (String member : seen) {
            due.is("the document has " + member, () -> FACE.contains(member) ? 1 : 0, 1);
        }
        due.is("public and final", () -> TwinWrites.class.getModifiers(), Modifier.PUBLIC | Modifier.FINAL);
        due.is("extends Object alone", () -> TwinWrites.class.getSuperclass() == Object.class ? 1 : 0, 1);
        due.is("interfaces", () -> TwinWrites.class.getInterfaces().length, 0);
        due.is("NONE", () -> TwinWrites.NONE, -1);
        due.is("FULL", () -> TwinWrites.FULL, -2);
        due.is("LOST", () -> TwinWrites.LOST, -3);
        due.end("FaceTest");
    }

    /** All members but the private ones, as Java writes them. */
    private static TreeSet<String> seen() {
        TreeSet<String> seen = new TreeSet<>();
        for (Field f : TwinWrites.class.getDeclaredFields()) {
            if (!Modifier.isPrivate(f.getModifiers())) {
                seen.add(f.toString());
            }
        }
        for (Constructor<?> c : TwinWrites.class.getDeclaredConstructors()) {
            seen.add(c.toString());
        }
        for (Method m : TwinWrites.class.getDeclaredMethods()) {
            if (!Modifier.isPrivate(m.getModifiers()) && !m.isSynthetic()) {
                seen.add(m.toString());
            }
        }
        return seen;
    }
}
