import java.lang.reflect.Constructor;
import java.lang.reflect.Field;
import java.lang.reflect.Method;
import java.lang.reflect.Modifier;
import java.util.Arrays;
import java.util.TreeSet;

/** The class shows the document's face and nothing more. */
public final class FaceTest {
    private static final TreeSet<String> FACE = new TreeSet<>(Arrays.asList(
            "NONE", "FULL", "LOST", "TwinWrites()",
            "int change(int, int, int, int, int)", "int read(int, int)", "int got()", "int sync()",
            "int checkpoint()", "void power(int)", "int recover()", "int cut()",
            "int disk(int, int, int)", "int frame(int, int)", "int count(int)"));

    public static void main(String[] args) {
        TreeSet<String> seen = new TreeSet<>();
        for (Field f : TwinWrites.class.getDeclaredFields()) {
            if (!Modifier.isPrivate(f.getModifiers())) {
                seen.add(f.getName());
            }
        }
        for (Constructor<?> c : TwinWrites.class.getDeclaredConstructors()) {
            seen.add("TwinWrites" + types(c.getParameterTypes()));
        }
        for (Method m : TwinWrites.class.getDeclaredMethods()) {
            if (!Modifier.isPrivate(m.getModifiers()) && !m.isSynthetic()) {
                seen.add(m.getReturnType() + " " + m.getName() + types(m.getParameterTypes()));
            }
        }
        Due due = new Due();
        due.is("the face " + seen, () -> seen.equals(FACE) ? 1 : 0, 1);
        due.is("public and final", () -> TwinWrites.class.getModifiers(), Modifier.PUBLIC | Modifier.FINAL);
        due.is("NONE", () -> TwinWrites.NONE, -1);
        due.is("FULL", () -> TwinWrites.FULL, -2);
        due.is("LOST", () -> TwinWrites.LOST, -3);
        due.end("FaceTest");
    }

    private static String types(Class<?>[] types) {
        return Arrays.toString(types).replace('[', '(').replace(']', ')');
    }
}
