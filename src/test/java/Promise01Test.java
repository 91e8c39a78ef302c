/** Promise 1, a new object: its sentences and their boundary cases, a test for each. */
public final class Promise01Test {
    private static final int NONE = FrameTyper.NONE;

    public static void main(String[] args) {
        Due.endAll(Promise01Test.class);
    }

    // "CLASSES are 0 .. 7; each but 0 has a PARENT of a lesser number, at first 0."
    static void everyClassIsBelow0AndItselfAlone() {
        for (int c = 0; c <= 7; c++) {
            FrameTyper t = new FrameTyper();
            for (int d = 0; d <= 7; d++) {
                Due.is(c + " below " + d, Due.isBelow(t, c, d), d == 0 || d == c);
            }
        }
    }

    // "FIELDS 0 .. 5 have a class (at first 0) ..."
    static void everyFieldIsOfClass0() {
        FrameTyper t = Due.typer(16, NONE, NONE, NONE, 0);
        for (int f = 0; f <= 5; f++) {
            Due.checks("field " + f, t, 0, 5, 0, 16, f, 19);
        }
    }

    // "... and a known type (at first INT)."
    static void everyFieldIsInt() {
        FrameTyper t = Due.typer(16, NONE, NONE, NONE, 1);
        for (int f = 0; f <= 5; f++) {
            Due.checks("field " + f, t, 0, 5, 0, 16, f, 19);
            Due.checks("field " + f + " is not written with NULL", t, 603, 5, 0, 2, 17, f, 1, 0, 19);
        }
    }

    // "ROUTINES 0 .. 5 have up to three known types that they take ... (at first none ...)."
    static void everyRoutineTakesNone() {
        FrameTyper t = new FrameTyper();
        for (int r = 0; r <= 5; r++) {
            Due.checks("routine " + r, t, 0, 18, r, 19);
        }
    }

    // "... and a known type that they give, or 0 for none (at first none and 0)."
    static void everyRoutineGivesNothing() {
        FrameTyper t = new FrameTyper();
        for (int r = 0; r <= 5; r++) {
            Due.checks("routine " + r, t, 502, 18, r, 8, 19);
        }
    }

    // "The METHOD ... at first it takes none ..."
    static void allLocalsAreTop() {
        FrameTyper t = new FrameTyper();
        for (int x = 0; x <= 3; x++) {
            Due.checks("local " + x + " is no INT", t, 600, 3, x, 19);
            Due.checks("local " + x + " is no object", t, 600, 5, x, 19);
        }
    }

    // "... and gives 0."
    static void methodGivesNothing() {
        Due.checks("19 takes nothing", new FrameTyper(), 0, 19);
    }

    // "No code."
    static void codeIsEmpty() {
        Due.is("clear()", new FrameTyper().clear(), 0);
        Due.is("check()", new FrameTyper().check(), 100);
        Due.is("make()", new FrameTyper().make(), -100);
        Due.is("code(19, 1)", new FrameTyper().code(19, 1), 1);
    }

    // "A table of one byte, 0."
    static void tableIsOneByte0() {
        FrameTyper t = new FrameTyper();
        Due.tableIs("new", t, 0);
        Due.is("frames()", t.frames(), 0);
        Due.is("frame(0, 0)", t.frame(0, 0), NONE);
        Due.is("table(5, 1) stands behind it", t.table(5, 1), 2);
        Due.tableIs("then", t, 0, 5);
    }

    static void objectsStandApart() {
        FrameTyper one = new FrameTyper();
        one.parent(3, 2);
        one.field(0, 3, 19);
        one.routine(0, 1, 1, 1, 1);
        one.method(1, 1, 1, 1, 1);
        Due.code(one, 19);
        Due.table(one, 1, 0);
        codeIsEmpty();
        tableIsOneByte0();
        everyClassIsBelow0AndItselfAlone();
        everyFieldIsInt();
        everyRoutineTakesNone();
        allLocalsAreTop();
        methodGivesNothing();
    }

    // "An object is used for at most 512 calls after it has been made."
    static void theLast512thCallIsAnswered() {
        FrameTyper t = new FrameTyper();
        t.method(1, NONE, NONE, NONE, 0);
        t.code(0x03000C020013L, 6);
        for (int call = 3; call <= 509; call += 3) {
            Due.is("make()", t.make(), 2);
            Due.is("check()", t.check(), 0);
            Due.is("tableAt(1)", t.tableAt(1), 4);
        }
        Due.is("call 510, parent", t.parent(1, 0), true);
        Due.is("call 511, frames", t.frames(), 1);
        Due.is("call 512, clear", t.clear(), 6);
    }
}
