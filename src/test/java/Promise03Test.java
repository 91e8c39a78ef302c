/** Promise 3, field: its sentences and their boundary cases, a test for each. */
public final class Promise03Test {
    private static final int NONE = FrameTyper.NONE;
    private static final int[] FAR = {
        -2, -256, 256, 257, 65536, Integer.MAX_VALUE, Integer.MIN_VALUE};

    public static void main(String[] args) {
        Due.endAll(Promise03Test.class);
    }

    /** Field f is of class c, which is below 0 alone, and of this type. */
    private static void fieldIs(FrameTyper t, int f, int c, int type) {
        t.method(16 + c, 16, type, NONE, type);
        Due.checks("field " + f + " of class " + c, t, 0, 5, 0, 16, f, 19);
        Due.checks("field " + f + " of class 0", t, c == 0 ? 0 : 602, 5, 1, 16, f, 19);
        int load = type == 1 ? 3 : 5;
        Due.checks("field " + f + " written", t, 0, 5, 0, load, 2, 17, f, load, 2, 19);
        t.method(16 + c, NONE, NONE, NONE, type == 1 ? 16 : 1);
        Due.checks("field " + f + " is of no other type", t, 604, 5, 0, 16, f, 19);
        int other = type == 1 || type == 23 ? 22 : 23;
        t.method(16 + c, NONE, NONE, NONE, other);
        Due.checks("field " + f + " is of no other class", t, 604, 5, 0, 16, f, 19);
    }

    // "False when there is no such field ..." (FIELDS 0 .. 5)
    static void field0IsTaken() {
        FrameTyper t = new FrameTyper();
        Due.is("field(0, 1, 17)", t.field(0, 1, 17), true);
        fieldIs(t, 0, 1, 17);
    }

    static void field5IsTaken() {
        FrameTyper t = new FrameTyper();
        Due.is("field(5, 1, 17)", t.field(5, 1, 17), true);
        fieldIs(t, 5, 1, 17);
    }

    static void field6IsRefused() {
        Due.is("field(6, 0, 1)", new FrameTyper().field(6, 0, 1), false);
    }

    static void fieldBelow0IsRefused() {
        Due.is("field(-1, 0, 1)", new FrameTyper().field(-1, 0, 1), false);
    }

    static void farFieldsAreRefused() {
        for (int far : FAR) {
            Due.is("field(" + far + ", 0, 1)", new FrameTyper().field(far, 0, 1), false);
        }
    }

    // "... or class ..." (CLASSES 0 .. 7)
    static void class0IsTaken() {
        FrameTyper t = new FrameTyper();
        t.field(2, 3, 1);
        Due.is("field(2, 0, 1)", t.field(2, 0, 1), true);
        fieldIs(t, 2, 0, 1);
    }

    static void class7IsTaken() {
        FrameTyper t = new FrameTyper();
        Due.is("field(2, 7, 1)", t.field(2, 7, 1), true);
        fieldIs(t, 2, 7, 1);
    }

    static void class8IsRefused() {
        Due.is("field(2, 8, 1)", new FrameTyper().field(2, 8, 1), false);
    }

    static void classBelow0IsRefused() {
        Due.is("field(2, -1, 1)", new FrameTyper().field(2, -1, 1), false);
    }

    static void farClassesAreRefused() {
        for (int far : FAR) {
            Due.is("field(2, " + far + ", 1)", new FrameTyper().field(2, far, 1), false);
        }
        Due.is("a type is no class", new FrameTyper().field(2, 16, 1), false);
    }

    // "... or the type is not known." (A KNOWN type is INT or an object.)
    static void intIsTaken() {
        FrameTyper t = new FrameTyper();
        t.field(3, 2, 18);
        Due.is("field(3, 2, 1)", t.field(3, 2, 1), true);
        fieldIs(t, 3, 2, 1);
    }

    static void everyObjectIsTaken() {
        for (int type = 16; type <= 23; type++) {
            FrameTyper t = new FrameTyper();
            Due.is("field(3, 2, " + type + ")", t.field(3, 2, type), true);
            fieldIs(t, 3, 2, type);
        }
    }

    static void topIsRefused() {
        Due.is("field(3, 2, 0)", new FrameTyper().field(3, 2, 0), false);
    }

    static void nullIsRefused() {
        Due.is("field(3, 2, 2)", new FrameTyper().field(3, 2, 2), false);
    }

    static void noneIsRefused() {
        Due.is("field(3, 2, -1)", new FrameTyper().field(3, 2, NONE), false);
    }

    static void typesBesideObjectsAreRefused() {
        Due.is("field(3, 2, 15)", new FrameTyper().field(3, 2, 15), false);
        Due.is("field(3, 2, 24)", new FrameTyper().field(3, 2, 24), false);
    }

    static void newTypesAreRefused() {
        for (int type = 64; type <= 112; type++) {
            Due.is("field(3, 2, " + type + ")", new FrameTyper().field(3, 2, type), false);
        }
    }

    static void farTypesAreRefused() {
        for (int far : FAR) {
            Due.is("field(3, 2, " + far + ")", new FrameTyper().field(3, 2, far), false);
        }
        for (int type = 3; type <= 15; type++) {
            Due.is("field(3, 2, " + type + ")", new FrameTyper().field(3, 2, type), false);
        }
    }

    static void refusedFieldLeavesAllOthers() {
        for (int f : new int[] {-1, 6, 256, Integer.MIN_VALUE, Integer.MAX_VALUE}) {
            FrameTyper t = new FrameTyper();
            for (int k = 0; k <= 5; k++) {
                t.field(k, k + 1, 17 + k);
            }
            Due.is("field(" + f + ", 0, 1)", t.field(f, 0, 1), false);
            for (int k = 0; k <= 5; k++) {
                fieldIs(t, k, k + 1, 17 + k);
            }
        }
    }

    static void refusedClassLeavesTheType() {
        FrameTyper t = new FrameTyper();
        t.field(4, 3, 19);
        Due.is("field(4, 8, 1)", t.field(4, 8, 1), false);
        Due.is("field(4, -1, 1)", t.field(4, -1, 1), false);
        fieldIs(t, 4, 3, 19);
    }

    static void refusedTypeLeavesTheClass() {
        FrameTyper t = new FrameTyper();
        t.field(4, 3, 19);
        Due.is("field(4, 0, 0)", t.field(4, 0, 0), false);
        Due.is("field(4, 0, 24)", t.field(4, 0, 24), false);
        fieldIs(t, 4, 3, 19);
    }

    static void everyFieldStandsAlone() {
        for (int f = 0; f <= 5; f++) {
            FrameTyper t = new FrameTyper();
            t.field(f, 4, 20);
            for (int k = 0; k <= 5; k++) {
                fieldIs(t, k, k == f ? 4 : 0, k == f ? 20 : 1);
            }
        }
    }

    static void theCodeAndTheTableStay() {
        FrameTyper t = new FrameTyper();
        Due.code(t, 0, 19);
        Due.table(t, 1, 1);
        Due.is("taken", t.field(2, 1, 17), true);
        Due.is("refused", t.field(2, 1, 2), false);
        Due.is("check()", t.check(), 0);
        Due.tableIs("then", t, 1, 1);
        Due.is("clear()", t.clear(), 2);
    }
}
