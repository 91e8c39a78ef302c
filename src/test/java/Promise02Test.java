/** Promise 2, parent: its sentences and their boundary cases, a test for each. */
public final class Promise02Test {
    private static final int[] FAR = {
        -2, -8, -256, -255, 16, 256, 257, 65537, Integer.MAX_VALUE, Integer.MIN_VALUE};

    public static void main(String[] args) {
        Due.endAll(Promise02Test.class);
    }

    // "False, and nothing is done, when c is not 1 .. 7 ..."
    static void class0IsRefused() {
        Due.is("parent(0, 0)", new FrameTyper().parent(0, 0), false);
        Due.is("parent(0, -1)", new FrameTyper().parent(0, -1), false);
    }

    static void class1IsTaken() {
        Due.is("parent(1, 0)", new FrameTyper().parent(1, 0), true);
    }

    static void class7IsTaken() {
        FrameTyper t = new FrameTyper();
        Due.is("parent(7, 6)", t.parent(7, 6), true);
        Due.is("7 below 6", Due.isBelow(t, 7, 6), true);
    }

    static void class8IsRefused() {
        Due.is("parent(8, 0)", new FrameTyper().parent(8, 0), false);
        Due.is("parent(8, 7)", new FrameTyper().parent(8, 7), false);
    }

    static void classBelow0IsRefused() {
        Due.is("parent(-1, 0)", new FrameTyper().parent(-1, 0), false);
        Due.is("parent(-1, -2)", new FrameTyper().parent(-1, -2), false);
    }

    static void farClassesAreRefused() {
        for (int far : FAR) {
            Due.is("parent(" + far + ", 0)", new FrameTyper().parent(far, 0), false);
        }
    }

    // "... or parent not 0 .. c - 1."
    static void parentBelow0IsRefused() {
        for (int c = 1; c <= 7; c++) {
            Due.is("parent(" + c + ", -1)", new FrameTyper().parent(c, -1), false);
        }
    }

    static void parent0IsTaken() {
        for (int c = 1; c <= 7; c++) {
            Due.is("parent(" + c + ", 0)", new FrameTyper().parent(c, 0), true);
        }
    }

    static void parentOneLessIsTaken() {
        for (int c = 1; c <= 7; c++) {
            FrameTyper t = new FrameTyper();
            Due.is("parent(" + c + ", " + (c - 1) + ")", t.parent(c, c - 1), true);
            Due.is(c + " below it", Due.isBelow(t, c, c - 1), true);
        }
    }

    static void parentItselfIsRefused() {
        for (int c = 1; c <= 7; c++) {
            Due.is("parent(" + c + ", " + c + ")", new FrameTyper().parent(c, c), false);
        }
    }

    static void parentOneMoreIsRefused() {
        for (int c = 1; c <= 7; c++) {
            Due.is("parent(" + c + ", " + (c + 1) + ")", new FrameTyper().parent(c, c + 1), false);
        }
    }

    static void farParentsAreRefused() {
        for (int far : FAR) {
            Due.is("parent(7, " + far + ")", new FrameTyper().parent(7, far), false);
        }
    }

    static void everyPairIsAnsweredSo() {
        FrameTyper t = new FrameTyper();
        for (int c = -1; c <= 9; c++) {
            for (int parent = -2; parent <= 9; parent++) {
                boolean due = c >= 1 && c <= 7 && parent >= 0 && parent < c;
                Due.is("parent(" + c + ", " + parent + ")", t.parent(c, parent), due);
            }
        }
    }

    // "... and nothing is done ..."
    static void refusedParentLeavesTheOldOne() {
        for (int parent : new int[] {-1, 5, 6, Integer.MIN_VALUE, Integer.MAX_VALUE}) {
            FrameTyper t = new FrameTyper();
            t.parent(5, 3);
            Due.is("parent(5, " + parent + ")", t.parent(5, parent), false);
            for (int d = 0; d <= 7; d++) {
                Due.is("5 below " + d, Due.isBelow(t, 5, d), d == 0 || d == 3 || d == 5);
            }
        }
    }

    static void refusedClassLeavesAllOthers() {
        for (int c : new int[] {-1, 0, 8, 256 + 2, Integer.MIN_VALUE, Integer.MAX_VALUE}) {
            FrameTyper t = new FrameTyper();
            t.parent(2, 1);
            Due.is("parent(" + c + ", 0)", t.parent(c, 0), false);
            Due.is("2 below 1", Due.isBelow(t, 2, 1), true);
            for (int d = 1; d <= 7; d++) {
                Due.is(d + " below 0", Due.isBelow(t, d, 0), true);
                Due.is("0 below " + d, Due.isBelow(t, 0, d), false);
            }
        }
    }

    // "A class is BELOW itself, its parent, that one's parent, and so on."
    static void theLongestLineOfParents() {
        FrameTyper t = new FrameTyper();
        for (int c = 1; c <= 7; c++) {
            t.parent(c, c - 1);
        }
        for (int d = 0; d <= 7; d++) {
            Due.is("7 below " + d, Due.isBelow(t, 7, d), true);
            Due.is(d + " below 7", Due.isBelow(t, d, 7), d == 7);
            Due.is("3 below " + d, Due.isBelow(t, 3, d), d <= 3);
        }
    }

    static void theLastParentHolds() {
        FrameTyper t = new FrameTyper();
        t.parent(5, 4);
        t.parent(5, 2);
        Due.is("5 below 2", Due.isBelow(t, 5, 2), true);
        Due.is("5 below 4", Due.isBelow(t, 5, 4), false);
        t.parent(2, 1);
        Due.is("5 below 1 by its parent's parent", Due.isBelow(t, 5, 1), true);
        t.parent(2, 0);
        Due.is("5 below 1 no more", Due.isBelow(t, 5, 1), false);
    }

    static void theCodeAndTheTableStay() {
        FrameTyper t = new FrameTyper();
        Due.code(t, 0, 19);
        Due.table(t, 1, 1);
        Due.is("taken", t.parent(2, 1), true);
        Due.is("refused", t.parent(2, 2), false);
        Due.is("check()", t.check(), 0);
        Due.tableIs("then", t, 1, 1);
        Due.is("clear()", t.clear(), 2);
    }
}
