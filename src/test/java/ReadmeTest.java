import java.io.IOException;
import java.lang.reflect.InvocationTargetException;
import java.lang.reflect.Method;
import java.lang.reflect.Modifier;
import java.nio.file.Files;
import java.nio.file.Path;
import java.util.List;
import java.util.Set;
import java.util.TreeSet;
import java.util.regex.Matcher;
import java.util.regex.Pattern;

/** Runs every example of README.md, and sees that it tells of each call of the face. */
public final class ReadmeTest {
    private static final String NEW_OBJECT = "FrameTyper t = new FrameTyper();";
    private static final Pattern CALL = Pattern.compile(
            "t\\.(\\w+)\\(([^)]*)\\);\\s*// (true|false|-?\\d+|throws \\w+)(: .*)?");

    private final Set<String> called = new TreeSet<>();
    private FrameTyper object;
    private int examples;

    private ReadmeTest() {
    }

    public static void main(String[] args) throws IOException {
        Path readme = Path.of("README.md");
        ReadmeTest test = new ReadmeTest();
        test.runExamples(Files.readAllLines(readme));
        test.everyCallIsTold(Files.readString(readme).replaceAll("\\s+", " "));
        Due.end("ReadmeTest, " + test.examples + " examples");
    }

    private void runExamples(List<String> lines) {
        boolean inside = false;
        for (int i = 0; i < lines.size(); i++) {
            String line = lines.get(i);
            if (line.startsWith("```")) {
                inside = line.equals("```java");
                object = null;
                examples += inside ? 1 : 0;
            } else if (inside) {
                runLine("README.md, line " + (i + 1), line);
            }
        }
    }

    /** A line of another form counts as wrong, so that no example is left out. */
    private void runLine(String where, String line) {
        Matcher call = CALL.matcher(line);
        if (line.equals(NEW_OBJECT)) {
            object = new FrameTyper();
        } else if (object != null && call.matches()) {
            String told = where + ": " + call.group(1) + "(" + call.group(2) + ")";
            String got = answer(call.group(1), call.group(2));
            Due.is(told + " answers " + got + ", the file says " + call.group(3),
                    got.equals(call.group(3)), true);
            called.add(call.group(1));
        } else {
            Due.is(where + " can be run: " + line, false, true);
        }
    }

    private String answer(String name, String list) {
        String[] words = list.isEmpty() ? new String[0] : list.split(", ");
        for (Method m : FrameTyper.class.getMethods()) {
            if (m.getName().equals(name) && m.getParameterCount() == words.length) {
                return answer(m, arguments(m, words));
            }
        }
        return "no such call";
    }

    private String answer(Method m, Object[] arguments) {
        try {
            return String.valueOf(m.invoke(object, arguments));
        } catch (InvocationTargetException e) {
            return "throws " + e.getCause().getClass().getSimpleName();
        } catch (IllegalAccessException e) {
            return "cannot be called";
        }
    }

    private static Object[] arguments(Method m, String[] words) {
        Object[] arguments = new Object[words.length];
        for (int i = 0; i < words.length; i++) {
            boolean isLong = m.getParameterTypes()[i] == long.class;
            arguments[i] = isLong ? (Object) longOf(words[i]) : (Object) intOf(words[i]);
        }
        return arguments;
    }

    private static long longOf(String word) {
        return word.endsWith("L") ? Long.decode(word.substring(0, word.length() - 1)) : intOf(word);
    }

    private static int intOf(String word) {
        return word.equals("FrameTyper.NONE") ? FrameTyper.NONE : Integer.decode(word);
    }

    private void everyCallIsTold(String text) {
        for (Method m : FrameTyper.class.getDeclaredMethods()) {
            if (Modifier.isPublic(m.getModifiers())) {
                Pattern told = Pattern.compile("`" + m.getReturnType() + " " + m.getName()
                        + "\\([^)]*\\)" + thrown(m) + "`: ");
                Due.is(m.getName() + " is told", told.matcher(text).find(), true);
                Due.is(m.getName() + " has an example", called.contains(m.getName()), true);
            }
        }
        Due.is("the constructor is told", text.contains("`FrameTyper()`: "), true);
        Due.is("the constant is told", text.contains("`FrameTyper.NONE` is " + FrameTyper.NONE), true);
    }

    private static String thrown(Method m) {
        StringBuilder text = new StringBuilder();
        for (Class<?> e : m.getExceptionTypes()) {
            text.append(" throws ").append(e.getSimpleName());
        }
        return text.toString();
    }
}
