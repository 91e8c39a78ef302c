/** Promises 1 to 5: a new object, parent, field, routine, method. */
public final class WorldTest {
    private static final int NONE = FrameTyper.NONE;
    private static final int[] FAR = {-2, 24, 64, 15, 1000, Integer.MAX_VALUE, Integer.MIN_VALUE};

    public static void main(String[] args) {
        newObject();
        newObjectsWorld();
        parent();
        parentAtEdges();
        field();
        fieldAtEdges();
        routine();
        routineAtEdges();
        method();
        methodAtEdges();
        Due.end("WorldTest");
    }

    private static void newObject() {
        FrameTyper t = new FrameTyper();
        Due.is("1: code is empty", t.clear(), 0);
        Due.tableIs("1: table", t, 0);
        Due.is("1: frames", t.frames(), 0);
        Due.is("1: check", t.check(), 100);
        Due.is("1: make", t.make(), -100);
        Due.tableIs("1: table after a fault", t, 0);
    }

    private static void newObjectsWorld() {
        FrameTyper t = new FrameTyper();
        Due.code(t, 3, 0, 19);
        Due.is("1: local 0 is not INT", t.check(), 600);
        Due.code(t, 19);
        Due.is("1: the method gives nothing", t.check(), 0);
        for (int f = 0; f <= 5; f++) {
            Due.code(t, 14, 0, 9, 15, 16, f, 4, 0, 19);
            Due.is("1: field " + f + " of class 0 is INT", t.check(), 0);
            Due.code(t, 18, f, 19);
            Due.is("1: routine " + f + " takes nothing", t.check(), 0);
            Due.code(t, 18, f, 8, 19);
            Due.is("1: routine " + f + " gives nothing", t.check(), 502);
        }
        for (int c = 1; c <= 7; c++) {
            t.routine(0, 16, NONE, NONE, 0);
            Due.code(t, 14, c, 9, 15, 18, 0, 19);
            Due.is("1: class " + c + " is below 0", t.check(), 0);
            for (int d = 1; d <= 7; d++) {
                t.routine(0, 16 + d, NONE, NONE, 0);
                Due.is("1: class " + c + " is below " + d, t.check(), c == d ? 0 : 604);
            }
        }
    }

    private static void parent() {
        FrameTyper t = new FrameTyper();
        Due.is("2: parent(1, 0)", t.parent(1, 0), true);
        Due.is("2: parent(2, 1)", t.parent(2, 1), true);
        Due.is("2: parent(5, 2)", t.parent(5, 2), true);
        Due.is("2: parent(7, 6)", t.parent(7, 6), true);
        Due.is("2: 5 below 5", Due.isBelow(t, 5, 5), true);
        Due.is("2: 5 below 2", Due.isBelow(t, 5, 2), true);
        Due.is("2: 5 below 1", Due.isBelow(t, 5, 1), true);
        Due.is("2: 5 below 0", Due.isBelow(t, 5, 0), true);
        Due.is("2: 5 below 3", Due.isBelow(t, 5, 3), false);
        Due.is("2: 2 below 5", Due.isBelow(t, 2, 5), false);
        Due.is("2: 7 below 6", Due.isBelow(t, 7, 6), true);
        Due.is("2: parent again", t.parent(5, 3), true);
        Due.is("2: 5 below 3 then", Due.isBelow(t, 5, 3), true);
        Due.is("2: 5 not below 2 then", Due.isBelow(t, 5, 2), false);
    }

    private static void parentAtEdges() {
        FrameTyper t = new FrameTyper();
        t.parent(3, 2);
        Due.is("2: parent(0, 0)", t.parent(0, 0), false);
        Due.is("2: parent(-1, -2)", t.parent(-1, -2), false);
        Due.is("2: parent(8, 0)", t.parent(8, 0), false);
        Due.is("2: parent(3, 3)", t.parent(3, 3), false);
        Due.is("2: parent(3, 4)", t.parent(3, 4), false);
        Due.is("2: parent(3, -1)", t.parent(3, NONE), false);
        for (int far : FAR) {
            Due.is("2: parent(" + far + ", 0)", t.parent(far, 0), false);
            Due.is("2: parent(3, " + far + ")", t.parent(3, far), false);
        }
        Due.is("2: nothing was done", Due.isBelow(t, 3, 2), true);
    }

    private static void field() {
        FrameTyper t = new FrameTyper();
        t.parent(4, 3);
        Due.is("3: field(5, 3, 23)", t.field(5, 3, 23), true);
        Due.is("3: field(0, 7, 1)", t.field(0, 7, 1), true);
        t.method(19, 20, 18, 23, 23);
        Due.code(t, 5, 0, 16, 5, 19);
        Due.is("3: class as it is", t.check(), 0);
        Due.code(t, 5, 1, 16, 5, 19);
        Due.is("3: class below", t.check(), 0);
        Due.code(t, 5, 2, 16, 5, 19);
        Due.is("3: class not below", t.check(), 602);
        Due.code(t, 2, 16, 5, 19);
        Due.is("3: NULL for the object", t.check(), 0);
        Due.code(t, 5, 0, 5, 3, 17, 5, 2, 19);
        Due.is("3: written with its type", t.check(), 0);
        Due.code(t, 5, 0, 5, 2, 17, 5, 2, 19);
        Due.is("3: written with another type", t.check(), 604);
        Due.code(t, 5, 3, 16, 0, 4, 0, 2, 19);
        Due.is("3: field 0 of class 7", t.check(), 0);
    }

    private static void fieldAtEdges() {
        FrameTyper t = new FrameTyper();
        t.field(2, 1, 17);
        for (int far : FAR) {
            Due.is("3: field(" + far + ", 0, 1)", t.field(far, 0, 1), false);
            Due.is("3: field(2, " + far + ", 1)", t.field(2, far, 1), false);
            Due.is("3: field(2, 0, " + far + ")", t.field(2, 0, far), false);
        }
        Due.is("3: field(-1, 0, 1)", t.field(NONE, 0, 1), false);
        Due.is("3: field(6, 0, 1)", t.field(6, 0, 1), false);
        Due.is("3: field(2, -1, 1)", t.field(2, NONE, 1), false);
        Due.is("3: field(2, 8, 1)", t.field(2, 8, 1), false);
        Due.is("3: field(2, 0, 0)", t.field(2, 0, 0), false);
        Due.is("3: field(2, 0, 2)", t.field(2, 0, 2), false);
        Due.is("3: field(2, 0, -1)", t.field(2, 0, NONE), false);
        t.method(17, 16, NONE, NONE, 17);
        Due.code(t, 5, 0, 16, 2, 19);
        Due.is("3: nothing was done", t.check(), 0);
        Due.code(t, 5, 1, 16, 2, 19);
        Due.is("3: nor to its class", t.check(), 602);
    }

    private static void routine() {
        FrameTyper t = new FrameTyper();
        Due.is("4: routine(0, 1, 17, 18, 19)", t.routine(0, 1, 17, 18, 19), true);
        Due.is("4: routine(5, 1, -1, -1, 0)", t.routine(5, 1, NONE, NONE, 0), true);
        t.method(17, 18, NONE, NONE, 19);
        Due.code(t, 1, 0, 5, 0, 5, 1, 18, 0, 19);
        Due.is("4: takes three, the last topmost", t.check(), 0);
        Due.code(t, 5, 1, 5, 0, 1, 0, 18, 0, 19);
        Due.is("4: not the other way round", t.check(), 606);
        Due.code(t, 5, 0, 5, 1, 18, 0, 19);
        Due.is("4: one is missing", t.check(), 504);
        Due.code(t, 1, 0, 18, 5, 2, 19);
        Due.is("4: gives nothing", t.check(), 0);
        t.routine(5, NONE, NONE, NONE, 1);
        Due.code(t, 18, 5, 4, 0, 2, 19);
        Due.is("4: takes nothing, gives INT", t.check(), 0);
    }

    private static void routineAtEdges() {
        FrameTyper t = new FrameTyper();
        t.routine(1, 17, 1, NONE, 1);
        for (int far : FAR) {
            Due.is("4: r " + far, t.routine(far, NONE, NONE, NONE, 0), false);
            Due.is("4: a " + far, t.routine(1, far, NONE, NONE, 0), false);
            Due.is("4: b " + far, t.routine(1, 1, far, NONE, 0), false);
            Due.is("4: c " + far, t.routine(1, 1, 1, far, 0), false);
            Due.is("4: gives " + far, t.routine(1, 1, 1, 1, far), false);
        }
        Due.is("4: r -1", t.routine(NONE, NONE, NONE, NONE, 0), false);
        Due.is("4: r 6", t.routine(6, NONE, NONE, NONE, 0), false);
        Due.is("4: a TOP", t.routine(1, 0, NONE, NONE, 0), false);
        Due.is("4: b NULL", t.routine(1, 1, 2, NONE, 0), false);
        Due.is("4: gives NULL", t.routine(1, 1, 1, NONE, 2), false);
        Due.is("4: gives NONE", t.routine(1, 1, 1, NONE, NONE), false);
        Due.is("4: b behind NONE", t.routine(1, NONE, 1, NONE, 0), false);
        Due.is("4: c behind NONE", t.routine(1, NONE, NONE, 1, 0), false);
        Due.is("4: c behind b NONE", t.routine(1, 1, NONE, 1, 0), false);
        t.method(17, NONE, NONE, NONE, 1);
        Due.code(t, 5, 0, 1, 0, 18, 1, 19);
        Due.is("4: nothing was done", t.check(), 0);
    }

    private static void method() {
        FrameTyper t = new FrameTyper();
        Due.is("5: method of four", t.method(1, 16, 23, 1, 1), true);
        Due.code(t, 3, 0, 5, 1, 5, 2, 3, 3, 19);
        Due.is("5: its locals", t.check(), 0);
        t.method(1, 16, 23, NONE, 0);
        Due.is("5: local 3 is TOP", t.check(), 606);
        Due.code(t, 19);
        Due.is("5: gives nothing", t.check(), 0);
        t.method(NONE, NONE, NONE, NONE, 18);
        Due.is("5: gives an object", t.check(), 500);
        Due.code(t, 2, 19);
        Due.is("5: NULL fits it", t.check(), 0);
        Due.code(t, 1, 0, 19);
        Due.is("5: INT does not", t.check(), 602);
    }

    private static void methodAtEdges() {
        FrameTyper t = new FrameTyper();
        t.method(1, 17, NONE, NONE, 1);
        for (int far : FAR) {
            Due.is("5: a " + far, t.method(far, NONE, NONE, NONE, 0), false);
            Due.is("5: b " + far, t.method(1, far, NONE, NONE, 0), false);
            Due.is("5: c " + far, t.method(1, 1, far, NONE, 0), false);
            Due.is("5: d " + far, t.method(1, 1, 1, far, 0), false);
            Due.is("5: gives " + far, t.method(1, 1, 1, 1, far), false);
        }
        Due.is("5: a TOP", t.method(0, NONE, NONE, NONE, 0), false);
        Due.is("5: d NULL", t.method(1, 1, 1, 2, 0), false);
        Due.is("5: gives NULL", t.method(1, 1, 1, 1, 2), false);
        Due.is("5: gives NONE", t.method(1, 1, 1, 1, NONE), false);
        Due.is("5: b behind NONE", t.method(NONE, 1, NONE, NONE, 0), false);
        Due.is("5: c behind NONE", t.method(1, NONE, 1, NONE, 0), false);
        Due.is("5: d behind NONE", t.method(1, 1, NONE, 1, 0), false);
        Due.code(t, 5, 1, 3, 0, 19);
        Due.is("5: nothing was done", t.check(), 0);
    }
}
