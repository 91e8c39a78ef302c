import java.lang.reflect.Constructor;
import java.lang.reflect.Field;
import java.lang.reflect.Member;
import java.lang.reflect.Method;
import java.lang.reflect.Modifier;
import java.util.Arrays;
import java.util.Map;
import java.util.TreeMap;

/** The public face, and rule 1 of the language: nothing else of the class can be seen. */
public final class FaceTest {
    private static final String[] FACE = {
        "boolean parent(int, int)",
        "boolean field(int, int, int)",
        "boolean routine(int, int, int, int, int)",
        "boolean method(int, int, int, int, int)",
        "int code(long, int)",
        "int clear()",
        "int table(long, int)",
        "int tableAt(int)",
        "int frames() throws IllegalArgumentException",
        "int frame(int, int) throws IllegalArgumentException",
        "int check() throws IllegalArgumentException",
        "int make() throws IllegalStateException",
    };

    public static void main(String[] args) throws Exception {
        Due.is("class is public and final", FrameTyper.class.getModifiers(),
                Modifier.PUBLIC | Modifier.FINAL);
        Due.is("NONE", FrameTyper.NONE, -1);
        Map<String, Method> seen = new TreeMap<>();
        for (Method m : FrameTyper.class.getDeclaredMethods()) {
            if (!Modifier.isPrivate(m.getModifiers())) {
                Due.is(told(m) + " is public alone", m.getModifiers(), Modifier.PUBLIC);
                seen.put(told(m), m);
            } else {
                Due.is(m.getName() + " is a private method with a public name",
                        isFaceName(m.getName()), false);
            }
        }
        for (String line : FACE) {
            Due.is(line + " is there", seen.remove(line) != null, true);
        }
        Due.is("members beside the face " + seen.keySet(), seen.size(), 0);
        constructorsAndFields();
        nestedClasses();
        Due.end("FaceTest");
    }

    private static void constructorsAndFields() {
        Constructor<?>[] constructors = FrameTyper.class.getDeclaredConstructors();
        Due.is("constructors", constructors.length, 1);
        Due.is("constructor is public", Modifier.isPublic(constructors[0].getModifiers()), true);
        Due.is("constructor's parameters", constructors[0].getParameterCount(), 0);
        for (Field f : FrameTyper.class.getDeclaredFields()) {
            boolean hidden = Modifier.isPrivate(((Member) f).getModifiers());
            Due.is(f.getName() + " is private or NONE", hidden || f.getName().equals("NONE"), true);
            boolean fixed = !Modifier.isStatic(f.getModifiers()) || Modifier.isFinal(f.getModifiers());
            Due.is(f.getName() + " is no static state", fixed, true);
        }
    }

    private static void nestedClasses() {
        for (Class<?> c : FrameTyper.class.getDeclaredClasses()) {
            int modifiers = c.getModifiers();
            boolean open = Modifier.isPublic(modifiers) || Modifier.isProtected(modifiers);
            Due.is(c.getName() + " is public or protected", open, false);
            Due.is(c.getName() + " is static", Modifier.isStatic(modifiers), true);
        }
    }

    private static boolean isFaceName(String name) {
        return Arrays.stream(FACE).anyMatch(line -> line.contains(" " + name + "("));
    }

    private static String told(Method m) {
        StringBuilder text = new StringBuilder();
        text.append(m.getReturnType().getSimpleName()).append(' ').append(m.getName()).append('(');
        for (int i = 0; i < m.getParameterCount(); i++) {
            text.append(i == 0 ? "" : ", ").append(m.getParameterTypes()[i].getSimpleName());
        }
        text.append(')');
        for (Class<?> e : m.getExceptionTypes()) {
            text.append(" throws ").append(e.getSimpleName());
        }
        return text.toString();
    }
}
