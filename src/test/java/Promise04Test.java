/** Promise 4, routine: its sentences and their boundary cases, a test for each. */
public final class Promise04Test {
    private static final int NONE = FrameTyper.NONE;
    private static final int[] UNKNOWN = {
        2, 3, 15, 24, 63, 64, 111, -2, 256 + 1, 65536 + 16, Integer.MAX_VALUE, Integer.MIN_VALUE};
    private static final int[] KNOWN = {1, 16, 17, 22, 23};

    public static void main(String[] args) {
        Due.endAll(Promise04Test.class);
    }

    /** Routine r takes an object of class 1 and then INT, and gives an object of class 2. */
    private static void isAsBefore(FrameTyper t, int r) {
        t.method(17, 18, NONE, NONE, 18);
        Due.checks("takes and gives as before", t, 0, 5, 0, 1, 9, 18, r, 19);
        Due.checks("takes not less than before", t, 502, 1, 9, 18, r, 5, 1, 19);
        Due.checks("takes no other first one", t, 604, 5, 1, 1, 9, 18, r, 19);
        Due.checks("takes no other last one", t, 603, 5, 0, 2, 18, r, 19);
        t.method(17, NONE, NONE, NONE, 1);
        Due.checks("gives nothing else", t, 606, 5, 0, 1, 9, 18, r, 19);
    }

    private static FrameTyper withRoutine(int r) {
        FrameTyper t = new FrameTyper();
        Due.is("routine(" + r + ", 17, 1, NONE, 18)", t.routine(r, 17, 1, NONE, 18), true);
        return t;
    }

    // "False when there is no such routine ..." (ROUTINES 0 .. 5)
    static void routine0IsTaken() {
        isAsBefore(withRoutine(0), 0);
    }

    static void routine5IsTaken() {
        isAsBefore(withRoutine(5), 5);
    }

    static void routine6IsRefused() {
        Due.is("r 6", new FrameTyper().routine(6, NONE, NONE, NONE, 0), false);
    }

    static void routineBelow0IsRefused() {
        Due.is("r -1", new FrameTyper().routine(-1, NONE, NONE, NONE, 0), false);
    }

    static void farRoutinesAreRefused() {
        for (int r : new int[] {-2, 7, 256, 65536, Integer.MAX_VALUE, Integer.MIN_VALUE}) {
            Due.is("r " + r, new FrameTyper().routine(r, 1, 1, 1, 1), false);
        }
    }

    // "... a type is not known (and not NONE ...)"
    static void knownTypesAreTaken() {
        for (int type : KNOWN) {
            FrameTyper t = new FrameTyper();
            Due.is("a " + type, t.routine(1, type, NONE, NONE, 0), true);
            Due.is("b " + type, t.routine(1, 1, type, NONE, 0), true);
            Due.is("c " + type, t.routine(1, 1, 1, type, 0), true);
        }
    }

    static void unknownTypesAreRefused() {
        for (int type : UNKNOWN) {
            FrameTyper t = new FrameTyper();
            Due.is("a " + type, t.routine(1, type, NONE, NONE, 0), false);
            Due.is("a " + type + " and others", t.routine(1, type, 1, 1, 0), false);
            Due.is("b " + type, t.routine(1, 1, type, NONE, 0), false);
            Due.is("b " + type + " and c", t.routine(1, 1, type, 1, 0), false);
            Due.is("c " + type, t.routine(1, 1, 1, type, 0), false);
        }
    }

    static void unknownTypesBehindNoneAreRefused() {
        for (int type : UNKNOWN) {
            FrameTyper t = new FrameTyper();
            Due.is("b " + type, t.routine(1, NONE, type, NONE, 0), false);
            Due.is("c " + type, t.routine(1, NONE, NONE, type, 0), false);
        }
    }

    // "... or 0 for what it gives ..."
    static void topIsRefusedButForWhatItGives() {
        FrameTyper t = new FrameTyper();
        Due.is("a 0", t.routine(1, 0, NONE, NONE, 0), false);
        Due.is("b 0", t.routine(1, 1, 0, NONE, 0), false);
        Due.is("c 0", t.routine(1, 1, 1, 0, 0), false);
        Due.is("gives 0", t.routine(1, 1, 1, 1, 0), true);
    }

    static void knownTypesAreGiven() {
        for (int type : KNOWN) {
            FrameTyper t = new FrameTyper();
            Due.is("gives " + type, t.routine(1, NONE, NONE, NONE, type), true);
            t.method(NONE, NONE, NONE, NONE, type);
            Due.checks("and it does", t, 0, 18, 1, 19);
        }
    }

    static void unknownTypesAreNotGiven() {
        for (int type : UNKNOWN) {
            Due.is("gives " + type, new FrameTyper().routine(1, NONE, NONE, NONE, type), false);
        }
    }

    static void noneIsNotGiven() {
        Due.is("gives NONE", new FrameTyper().routine(1, 1, 1, 1, NONE), false);
        Due.is("all NONE", new FrameTyper().routine(1, NONE, NONE, NONE, NONE), false);
    }

    // "... or one stands behind NONE." ("all behind it must be NONE then, too")
    static void nothingStandsBehindNone() {
        for (int mask = 0; mask < 8; mask++) {
            int a = (mask & 1) != 0 ? 1 : NONE;
            int b = (mask & 2) != 0 ? 17 : NONE;
            int c = (mask & 4) != 0 ? 1 : NONE;
            boolean due = mask == 0 || mask == 1 || mask == 3 || mask == 7;
            String what = "routine(1, " + a + ", " + b + ", " + c + ", 0)";
            Due.is(what, new FrameTyper().routine(1, a, b, c, 0), due);
        }
    }

    // "ROUTINES have up to three known types that they take ..."
    static void takesNone() {
        FrameTyper t = new FrameTyper();
        t.routine(2, 1, 1, 1, 1);
        Due.is("none", t.routine(2, NONE, NONE, NONE, 0), true);
        Due.checks("takes none", t, 0, 18, 2, 19);
        Due.checks("leaves what lies there", t, 0, 2, 18, 2, 8, 19);
    }

    static void takesThree() {
        FrameTyper t = new FrameTyper();
        Due.is("three", t.routine(2, 17, 1, 18, 0), true);
        t.method(17, 18, NONE, NONE, 0);
        Due.checks("takes three, the last the topmost", t, 0, 5, 0, 1, 9, 5, 1, 18, 2, 19);
        Due.checks("two are not enough", t, 504, 1, 9, 5, 1, 18, 2, 19);
        Due.checks("the lowest must fit", t, 606, 5, 1, 1, 9, 5, 1, 18, 2, 19);
        Due.checks("the middle one must fit", t, 606, 5, 0, 5, 1, 5, 1, 18, 2, 19);
        Due.checks("the topmost must fit", t, 606, 5, 0, 1, 9, 5, 0, 18, 2, 19);
        Due.checks("none is left", t, 508, 5, 0, 1, 9, 5, 1, 18, 2, 8, 19);
    }

    static void refusedRoutineLeavesAllOthers() {
        for (int r : new int[] {-1, 6, 256, Integer.MIN_VALUE, Integer.MAX_VALUE}) {
            FrameTyper t = new FrameTyper();
            for (int k = 0; k <= 5; k++) {
                t.routine(k, 17, 1, NONE, 18);
            }
            Due.is("r " + r, t.routine(r, NONE, NONE, NONE, 0), false);
            for (int k = 0; k <= 5; k++) {
                isAsBefore(t, k);
            }
        }
    }

    static void refusedTypeLeavesTheRoutine() {
        FrameTyper t = withRoutine(3);
        Due.is("a", t.routine(3, 0, NONE, NONE, 0), false);
        Due.is("b", t.routine(3, 1, 2, NONE, 0), false);
        Due.is("c", t.routine(3, 1, 1, 24, 0), false);
        isAsBefore(t, 3);
    }

    static void refusedGivenLeavesTheRoutine() {
        FrameTyper t = withRoutine(3);
        Due.is("gives NULL", t.routine(3, 1, NONE, NONE, 2), false);
        Due.is("gives NONE", t.routine(3, 1, NONE, NONE, NONE), false);
        isAsBefore(t, 3);
    }

    static void oneBehindNoneLeavesTheRoutine() {
        FrameTyper t = withRoutine(3);
        Due.is("b behind NONE", t.routine(3, NONE, 1, NONE, 0), false);
        Due.is("c behind NONE", t.routine(3, 1, NONE, 1, 0), false);
        isAsBefore(t, 3);
    }

    static void everyRoutineStandsAlone() {
        for (int r = 0; r <= 5; r++) {
            FrameTyper t = new FrameTyper();
            t.routine(r, 1, NONE, NONE, 0);
            for (int k = 0; k <= 5; k++) {
                Due.checks("routine " + k, t, k == r ? 500 : 0, 18, k, 19);
            }
        }
    }

    static void theCodeAndTheTableStay() {
        FrameTyper t = new FrameTyper();
        Due.code(t, 0, 19);
        Due.table(t, 1, 1);
        Due.is("taken", t.routine(2, 1, 17, NONE, 18), true);
        Due.is("refused", t.routine(2, NONE, 17, NONE, 18), false);
        Due.is("check()", t.check(), 0);
        Due.tableIs("then", t, 1, 1);
        Due.is("clear()", t.clear(), 2);
    }
}
