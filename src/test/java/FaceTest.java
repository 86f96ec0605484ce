import java.lang.reflect.Constructor;
import java.lang.reflect.Field;
import java.lang.reflect.Method;
import java.lang.reflect.Modifier;
import java.util.Arrays;
import java.util.Set;
import java.util.TreeSet;

/** The public face, and no visible member beside it. */
public final class FaceTest {
    public static void main(String[] args) {
        Check check = new Check();
        check.due("NONE", ChainBoard.NONE, -1);
        check.due("public final", ChainBoard.class.getModifiers(), Modifier.PUBLIC | Modifier.FINAL);
        Set<String> want = new TreeSet<>(Arrays.asList(
                "field int NONE", "new []",
                "boolean poke[int, int]", "boolean poke4[int, int]", "int peek[int]",
                "int register[int]", "boolean set[int, int]", "int run[int]", "int state[]",
                "boolean trigger[int]", "boolean strobe[int, int]", "boolean lines[int, int]",
                "int device[int, int]", "int passed[int]"));
        Set<String> got = new TreeSet<>();
        for (Field f : ChainBoard.class.getDeclaredFields()) {
            if (!Modifier.isPrivate(f.getModifiers())) {
                got.add("field " + f.getType() + " " + f.getName());
            }
        }
        for (Constructor<?> c : ChainBoard.class.getDeclaredConstructors()) {
            if (!Modifier.isPrivate(c.getModifiers())) {
                got.add("new " + Arrays.toString(c.getParameterTypes()));
            }
        }
        for (Method m : ChainBoard.class.getDeclaredMethods()) {
            if (!Modifier.isPrivate(m.getModifiers())) {
                got.add(m.getReturnType() + " " + m.getName() + Arrays.toString(m.getParameterTypes()));
            }
        }
        check.due("the face is " + got, got.equals(want), true);
        check.end();
    }
}
