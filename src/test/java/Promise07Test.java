/** Promise 7, clear: its sentences and their boundary cases, a test for each. */
public final class Promise07Test {
    private static final int NONE = FrameTyper.NONE;

    public static void main(String[] args) {
        Due.endAll(Promise07Test.class);
    }

    // "The code is empty then: how many bytes it had."
    static void emptyCodeHadNone() {
        FrameTyper t = new FrameTyper();
        Due.is("clear()", t.clear(), 0);
        Due.is("clear() again", t.clear(), 0);
    }

    static void oneByte() {
        FrameTyper t = new FrameTyper();
        t.code(19, 1);
        Due.is("clear()", t.clear(), 1);
        Due.is("clear() again", t.clear(), 0);
    }

    static void everySize() {
        for (int size = 0; size <= 48; size++) {
            FrameTyper t = new FrameTyper();
            Due.code(t, Due.times(size, 0));
            Due.is("clear() of " + size, t.clear(), size);
        }
    }

    static void fullCode() {
        FrameTyper t = new FrameTyper();
        Due.code(t, Due.times(48, 0));
        Due.is("clear()", t.clear(), 48);
        Due.is("check() of empty code", t.check(), 100);
        Due.is("make() of empty code", t.make(), -100);
        Due.is("48 bytes find room again", t.code(0, 8), 8);
        Due.code(t, Due.times(48, 0));
        Due.is("clear() again", t.clear(), 48);
    }

    static void nothingOfTheOldCodeIsLeft() {
        FrameTyper t = new FrameTyper();
        Due.code(t, 1, 0, 8, 19);
        Due.is("check()", t.check(), 0);
        t.clear();
        t.code(1, 1);
        Due.is("1 has no second byte any more", t.check(), 100);
        t.code(0, 1);
        Due.is("nor is there a 19", t.check(), 102);
    }

    static void afterRefusedCode() {
        FrameTyper t = new FrameTyper();
        Due.code(t, Due.times(47, 0));
        Due.is("49", t.code(0, 2), NONE);
        Due.is("clear()", t.clear(), 47);
    }

    static void theTableStays() {
        FrameTyper t = new FrameTyper();
        Due.table(t, 1, 5);
        Due.code(t, 0, 19);
        t.clear();
        Due.tableIs("after clear()", t, 1, 5);
        t.clear();
        Due.tableIs("after clear() of empty code", t, 1, 5);
    }

    static void theWorldStays() {
        FrameTyper t = Due.typer(19, NONE, NONE, NONE, 18);
        t.parent(3, 2);
        t.field(1, 2, 19);
        t.routine(1, 19, NONE, NONE, 17);
        Due.code(t, 0);
        t.clear();
        Due.checks("parent, field and method", t, 0, 5, 0, 16, 1, 19);
        Due.checks("routine", t, 604, 5, 0, 18, 1, 19);
    }
}
