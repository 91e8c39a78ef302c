/** Promise 5, method: its sentences and their boundary cases, a test for each. */
public final class Promise05Test {
    private static final int NONE = FrameTyper.NONE;
    private static final int[] UNKNOWN = {
        2, 3, 15, 24, 63, 64, 111, -2, 256 + 1, 65536 + 16, Integer.MAX_VALUE, Integer.MIN_VALUE};
    private static final int[] KNOWN = {1, 16, 17, 22, 23};

    public static void main(String[] args) {
        Due.endAll(Promise05Test.class);
    }

    /** The locals that a frame at place 0 has, which are what the method takes. */
    private static void takes(String what, FrameTyper t, int a, int b, int c, int d) {
        Due.table(t, 1, 0);
        Due.frameIs(what, t, 0, 0, a, b, c, d, 0);
    }

    // "The METHOD takes up to four known types, which are its locals 0, 1, .. in the beginning ..."
    static void takesNone() {
        FrameTyper t = Due.typer(1, 1, 1, 1, 0);
        Due.is("none", t.method(NONE, NONE, NONE, NONE, 0), true);
        takes("none", t, 0, 0, 0, 0);
    }

    static void takesOne() {
        takes("one", Due.typer(17, NONE, NONE, NONE, 0), 17, 0, 0, 0);
    }

    static void takesThree() {
        takes("three", Due.typer(17, 1, 18, NONE, 0), 17, 1, 18, 0);
    }

    static void takesFour() {
        takes("four", Due.typer(17, 1, 18, 23, 0), 17, 1, 18, 23);
        Due.checks("all are there", Due.typer(17, 1, 18, 23, 0), 0, 5, 0, 3, 1, 5, 2, 5, 3, 19);
    }

    // "... likewise." (A type is not known and not NONE.)
    static void knownTypesAreTaken() {
        for (int type : KNOWN) {
            takes("a", Due.typer(type, NONE, NONE, NONE, 0), type, 0, 0, 0);
            takes("b", Due.typer(1, type, NONE, NONE, 0), 1, type, 0, 0);
            takes("c", Due.typer(1, 1, type, NONE, 0), 1, 1, type, 0);
            takes("d", Due.typer(1, 1, 1, type, 0), 1, 1, 1, type);
        }
    }

    static void unknownTypesAreRefused() {
        for (int type : UNKNOWN) {
            FrameTyper t = new FrameTyper();
            Due.is("a " + type, t.method(type, NONE, NONE, NONE, 0), false);
            Due.is("a " + type + " and others", t.method(type, 1, 1, 1, 0), false);
            Due.is("b " + type, t.method(1, type, NONE, NONE, 0), false);
            Due.is("b " + type + " and others", t.method(1, type, 1, 1, 0), false);
            Due.is("c " + type, t.method(1, 1, type, NONE, 0), false);
            Due.is("c " + type + " and d", t.method(1, 1, type, 1, 0), false);
            Due.is("d " + type, t.method(1, 1, 1, type, 0), false);
        }
    }

    static void unknownTypesBehindNoneAreRefused() {
        for (int type : UNKNOWN) {
            FrameTyper t = new FrameTyper();
            Due.is("b " + type, t.method(NONE, type, NONE, NONE, 0), false);
            Due.is("c " + type, t.method(NONE, NONE, type, NONE, 0), false);
            Due.is("d " + type, t.method(NONE, NONE, NONE, type, 0), false);
        }
    }

    static void topIsRefusedButForWhatItGives() {
        FrameTyper t = new FrameTyper();
        Due.is("a 0", t.method(0, NONE, NONE, NONE, 0), false);
        Due.is("b 0", t.method(1, 0, NONE, NONE, 0), false);
        Due.is("c 0", t.method(1, 1, 0, NONE, 0), false);
        Due.is("d 0", t.method(1, 1, 1, 0, 0), false);
        Due.is("gives 0", t.method(1, 1, 1, 1, 0), true);
    }

    // "... and gives a known one or 0 ..."
    static void gives0() {
        FrameTyper t = Due.typer(NONE, NONE, NONE, NONE, 1);
        Due.checks("gives INT", t, 500, 19);
        t.method(NONE, NONE, NONE, NONE, 0);
        Due.is("gives nothing", t.check(), 0);
    }

    static void knownTypesAreGiven() {
        for (int type : KNOWN) {
            FrameTyper t = Due.typer(type, NONE, NONE, NONE, type);
            Due.checks("gives " + type, t, 0, type == 1 ? 3 : 5, 0, 19);
            Due.checks("and nothing is too little", t, 500, 19);
        }
    }

    static void unknownTypesAreNotGiven() {
        for (int type : UNKNOWN) {
            Due.is("gives " + type, new FrameTyper().method(1, 1, 1, 1, type), false);
        }
    }

    static void noneIsNotGiven() {
        Due.is("gives NONE", new FrameTyper().method(1, 1, 1, 1, NONE), false);
        Due.is("all NONE", new FrameTyper().method(NONE, NONE, NONE, NONE, NONE), false);
    }

    // "all behind it must be NONE then, too"
    static void nothingStandsBehindNone() {
        for (int mask = 0; mask < 16; mask++) {
            int a = (mask & 1) != 0 ? 1 : NONE;
            int b = (mask & 2) != 0 ? 17 : NONE;
            int c = (mask & 4) != 0 ? 1 : NONE;
            int d = (mask & 8) != 0 ? 18 : NONE;
            boolean due = mask == 0 || mask == 1 || mask == 3 || mask == 7 || mask == 15;
            String what = "method(" + a + ", " + b + ", " + c + ", " + d + ", 0)";
            Due.is(what, new FrameTyper().method(a, b, c, d, 0), due);
        }
    }

    /** It takes 17, 1 and gives 18. */
    private static void isAsBefore(FrameTyper t) {
        takes("as before", t, 17, 1, 0, 0);
        Due.table(t, 0);
        Due.checks("gives as before", t, 0, 2, 20, 2, 19);
        Due.checks("and nothing else", t, 602, 1, 0, 19);
        Due.checks("and no other class", t, 602, 5, 0, 19);
    }

    static void refusedTypeLeavesTheMethod() {
        FrameTyper t = Due.typer(17, 1, NONE, NONE, 18);
        Due.is("a", t.method(0, NONE, NONE, NONE, 1), false);
        Due.is("b", t.method(1, 2, NONE, NONE, 1), false);
        Due.is("c", t.method(1, 1, 15, NONE, 1), false);
        Due.is("d", t.method(1, 1, 1, 24, 1), false);
        isAsBefore(t);
    }

    static void refusedGivenLeavesTheMethod() {
        FrameTyper t = Due.typer(17, 1, NONE, NONE, 18);
        Due.is("gives NULL", t.method(1, NONE, NONE, NONE, 2), false);
        Due.is("gives NONE", t.method(1, NONE, NONE, NONE, NONE), false);
        isAsBefore(t);
    }

    static void oneBehindNoneLeavesTheMethod() {
        FrameTyper t = Due.typer(17, 1, NONE, NONE, 18);
        Due.is("b behind NONE", t.method(NONE, 1, NONE, NONE, 0), false);
        Due.is("c behind NONE", t.method(1, NONE, 1, NONE, 0), false);
        Due.is("d behind NONE", t.method(1, 1, NONE, 1, 0), false);
        Due.is("d behind three", t.method(NONE, NONE, NONE, 1, 0), false);
        isAsBefore(t);
    }

    static void theCodeAndTheTableStay() {
        FrameTyper t = new FrameTyper();
        Due.code(t, 0, 19);
        Due.table(t, 1, 1);
        Due.is("taken", t.method(1, 17, NONE, NONE, 0), true);
        Due.is("refused", t.method(NONE, 17, NONE, NONE, 18), false);
        Due.is("check()", t.check(), 0);
        Due.tableIs("then", t, 1, 1);
        Due.is("clear()", t.clear(), 2);
    }
}
