import java.lang.reflect.InvocationTargetException;
import java.lang.reflect.Method;
import java.lang.reflect.Modifier;
import java.util.Arrays;
import java.util.Comparator;

/** Counts answers that are not as due, and ends a test by them. */
final class Due {
    private static final int NONE = FrameTyper.NONE;
    private static String test = "";
    private static int wrong;
    private static int asked;

    private Due() {
    }

    static void is(String what, long got, long want) {
        asked++;
        if (got != want) {
            wrong++;
            System.out.println(test + what + " answered " + got + ", due is " + want);
        }
    }

    static void is(String what, boolean got, boolean want) {
        is(what, got ? 1 : 0, want ? 1 : 0);
    }

    static void end(String tests) {
        System.out.println(tests + ": " + asked + " answers, " + wrong + " not as due");
        if (wrong != 0 || asked == 0) {
            System.exit(1);
        }
    }

    /** Runs each static method without parameters that is not private as a test of its own. */
    static void endAll(Class<?> tests) {
        Method[] all = tests.getDeclaredMethods();
        Arrays.sort(all, Comparator.comparing(Method::getName));
        int count = 0;
        for (Method m : all) {
            if (!Modifier.isPrivate(m.getModifiers()) && m.getParameterCount() == 0) {
                runOne(tests.getSimpleName(), m);
                count++;
            }
        }
        end(tests.getSimpleName() + ", " + count + " tests");
    }

    private static void runOne(String tests, Method m) {
        int askedBefore = asked;
        test = tests + "." + m.getName() + ": ";
        try {
            m.invoke(null);
        } catch (InvocationTargetException e) {
            wrong++;
            System.out.println(test + "threw " + e.getCause());
        } catch (IllegalAccessException e) {
            wrong++;
            System.out.println(test + "cannot be called");
        }
        is("has asked nothing", asked == askedBefore, false);
        test = "";
    }

    // ---- objects, code and tables

    static FrameTyper typer(int a, int b, int c, int d, int gives) {
        FrameTyper t = new FrameTyper();
        is("method", t.method(a, b, c, d, gives), true);
        return t;
    }

    /** One whose method takes none and gives nothing. */
    static FrameTyper typer() {
        return new FrameTyper();
    }

    /** Up to eight bytes from a place on, as code and table take them. */
    static long packed(int[] bytes, int from, int n) {
        long row = 0;
        for (int i = from; i < from + n; i++) {
            row = row << 8 | bytes[i];
        }
        return row;
    }

    /** Puts these bytes in the place of the code. */
    static void code(FrameTyper typer, int... bytes) {
        typer.clear();
        for (int i = 0; i < bytes.length; i += 8) {
            int n = Math.min(8, bytes.length - i);
            is("code of " + n + " behind " + i, typer.code(packed(bytes, i, n), n), i + n);
        }
    }

    /** Puts these bytes in the place of the table. */
    static void table(FrameTyper typer, int... bytes) {
        typer.table(0, 0);
        for (int i = 0; i < bytes.length; i += 8) {
            int n = Math.min(8, bytes.length - i);
            is("table of " + n + " behind " + i, typer.table(packed(bytes, i, n), n), i + n);
        }
    }

    static int[] row(int... bytes) {
        return bytes;
    }

    static int[] join(int[]... rows) {
        return Arrays.stream(rows).flatMapToInt(Arrays::stream).toArray();
    }

    /** So many bytes of one value. */
    static int[] times(int n, int value) {
        int[] bytes = new int[n];
        Arrays.fill(bytes, value);
        return bytes;
    }

    /** The bytes of these types in a table. */
    static int[] types(int... types) {
        int[][] rows = new int[types.length][];
        for (int i = 0; i < types.length; i++) {
            int type = types[i];
            rows[i] = type >= 64 ? row(8, type - 64) : type >= 16 ? row(7, type - 16) : row(type);
        }
        return join(rows);
    }

    /** The bytes of a frame that is told in full. */
    static int[] frame(int delta, int[] locals, int[] stack) {
        return join(row(255, delta, locals.length), types(locals), row(stack.length), types(stack));
    }

    // ---- what is due of a call

    static void tableIs(String what, FrameTyper typer, int... bytes) {
        for (int i = 0; i < bytes.length; i++) {
            is(what + ": tableAt(" + i + ")", typer.tableAt(i), bytes[i]);
        }
        is(what + ": tableAt behind the last", typer.tableAt(bytes.length), NONE);
    }

    /** The place, four locals, the height, and the types on the stack. */
    static void frameIs(String what, FrameTyper t, int i, int... due) {
        for (int k = 0; k <= 10; k++) {
            is(what + ": frame(" + i + ", " + k + ")", t.frame(i, k), k < due.length ? due[k] : NONE);
        }
    }

    static void malformed(String what, FrameTyper typer, boolean want) {
        is(what + ": frames() throws", throwsOnFrames(typer), want);
        is(what + ": frame(0, 0) throws", throwsOnFrame(typer, 0, 0), want);
        is(what + ": frame(-1, 99) throws", throwsOnFrame(typer, -1, 99), want);
        is(what + ": check() throws", throwsOnCheck(typer), want);
    }

    private static boolean throwsOnFrames(FrameTyper typer) {
        try {
            typer.frames();
            return false;
        } catch (IllegalArgumentException e) {
            return true;
        }
    }

    static boolean throwsOnFrame(FrameTyper typer, int i, int what) {
        try {
            typer.frame(i, what);
            return false;
        } catch (IllegalArgumentException e) {
            return true;
        }
    }

    static boolean throwsOnCheck(FrameTyper typer) {
        try {
            typer.check();
            return false;
        } catch (IllegalArgumentException e) {
            return true;
        }
    }

    static boolean throwsOnMake(FrameTyper typer) {
        try {
            typer.make();
            return false;
        } catch (IllegalStateException e) {
            return true;
        }
    }

    static void checks(String what, FrameTyper t, int due, int... code) {
        code(t, code);
        is(what + ": check()", t.check(), due);
    }

    static void makes(String what, FrameTyper t, int[] code, int... table) {
        code(t, code);
        is(what + ": make()", t.make(), table.length);
        tableIs(what, t, table);
        is(what + ": check() of what was made", t.check(), 0);
    }

    /** A fault of make, which leaves the table that was there. */
    static void makeFails(String what, FrameTyper t, int due, int... code) {
        table(t, 7, 77);
        code(t, code);
        is(what + ": make()", t.make(), due);
        tableIs(what + ": the table stays", t, 7, 77);
    }

    /** Whether an object of class c can be taken where one of class d is wanted; uses routine 5. */
    static boolean isBelow(FrameTyper t, int c, int d) {
        is("routine", t.routine(5, 16 + d, NONE, NONE, 0), true);
        code(t, 14, c, 9, 15, 18, 5, 19);
        int answer = t.check();
        is("fault 6 or none", answer == 0 || answer == 604, true);
        return answer == 0;
    }
}
