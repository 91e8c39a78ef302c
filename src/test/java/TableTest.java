/** Promises 10 and 11: frames, frame, and when a table is malformed. */
public final class TableTest {
    private static final int NONE = FrameTyper.NONE;

    public static void main(String[] args) {
        shortForms();
        oneOnTheStack();
        fewerLocals();
        moreLocals();
        fullForm();
        deltasAndPlaces();
        noSuchFrame();
        endsTooEarlyOrLate();
        wrongTagsAndTypes();
        wrongCounts();
        theMethodDecides();
        Due.end("TableTest");
    }

    private static void shortForms() {
        FrameTyper t = Due.typer(1, 17, NONE, NONE, 0);
        Due.table(t, 2, 3, 251, 4);
        Due.is("10: two frames", t.frames(), 2);
        Due.frameIs("0 .. 63", t, 0, 3, 1, 17, 0, 0, 0);
        Due.frameIs("251", t, 1, 8, 1, 17, 0, 0, 0);
        Due.table(t, 1, 47);
        Due.frameIs("tag 47", t, 0, 47, 1, 17, 0, 0, 0);
        Due.table(t, 1, 0);
        Due.frameIs("tag 0", t, 0, 0, 1, 17, 0, 0, 0);
    }

    private static void oneOnTheStack() {
        FrameTyper t = Due.typer(16, NONE, NONE, NONE, 0);
        Due.table(t, 4, 64, 2, 69, 7, 3, 247, 2, 8, 47, 0);
        Due.is("10: four frames", t.frames(), 4);
        Due.frameIs("64", t, 0, 0, 16, 0, 0, 0, 1, 2);
        Due.frameIs("69", t, 1, 6, 16, 0, 0, 0, 1, 19);
        Due.frameIs("247", t, 2, 9, 16, 0, 0, 0, 1, 111);
        Due.frameIs("the stack is empty again", t, 3, 10, 16, 0, 0, 0, 0);
        Due.table(t, 1, 111, 1);
        Due.frameIs("111", t, 0, 47, 16, 0, 0, 0, 1, 1);
    }

    private static void fewerLocals() {
        FrameTyper t = Due.typer(1, 16, 17, 18, 0);
        Due.table(t, 2, 250, 0, 249, 1);
        Due.frameIs("250", t, 0, 0, 1, 16, 17, 0, 0);
        Due.frameIs("249", t, 1, 2, 1, 0, 0, 0, 0);
        Due.table(t, 2, 248, 5, 250, 0);
        Due.frameIs("248", t, 0, 5, 1, 0, 0, 0, 0);
        Due.frameIs("none left", t, 1, 6, 0, 0, 0, 0, 0);
        Due.table(t, 2, 255, 0, 1, 1, 2, 1, 2, 250, 0);
        Due.frameIs("250 empties the stack", t, 1, 1, 0, 0, 0, 0, 0);
    }

    private static void moreLocals() {
        FrameTyper t = Due.typer(1, NONE, NONE, NONE, 0);
        Due.table(t, 2, 252, 7, 2, 253, 0, 7, 7, 8, 0);
        Due.frameIs("252", t, 0, 7, 1, 2, 0, 0, 0);
        Due.frameIs("253", t, 1, 8, 1, 2, 23, 64, 0);
        Due.table(t, 1, 254, 47, 0, 1, 0);
        Due.frameIs("254, TOP among them", t, 0, 47, 1, 0, 1, 0, 0);
        Due.table(t, 2, 254, 0, 0, 1, 0, 250, 0);
        Due.frameIs("a TOP at the end counts as a local", t, 1, 1, 1, 0, 1, 0, 0);
    }

    private static void fullForm() {
        FrameTyper t = Due.typer(1, 1, NONE, NONE, 0);
        Due.table(t, 1, 255, 2, 4, 0, 1, 2, 7, 0, 5, 8, 3, 7, 5, 2, 1, 0);
        Due.frameIs("255, all of it", t, 0, 2, 0, 1, 2, 16, 5, 67, 21, 2, 1, 0);
        Due.table(t, 2, 255, 47, 0, 0, 0);
        Due.malformed("a frame above 47", t, true);
        Due.table(t, 2, 255, 46, 0, 0, 0);
        Due.frameIs("255, nothing of it", t, 0, 46, 0, 0, 0, 0, 0);
        Due.frameIs("the same locals, none", t, 1, 47, 0, 0, 0, 0, 0);
    }

    private static void deltasAndPlaces() {
        FrameTyper t = Due.typer(NONE, NONE, NONE, NONE, 0);
        Due.table(t, 3, 0, 0, 5);
        Due.is("11: first place is delta", t.frame(0, 0), 0);
        Due.is("11: then delta and 1", t.frame(1, 0), 1);
        Due.is("11: then delta and 1 again", t.frame(2, 0), 7);
        Due.table(t, 1, 48);
        Due.malformed("a first place of 48", t, true);
        Due.table(t, 1, 63);
        Due.malformed("a first place of 63", t, true);
        Due.table(t, 2, 46, 0);
        Due.malformed("46 and 47", t, false);
        Due.table(t, 2, 46, 1);
        Due.malformed("46 and 48", t, true);
        Due.table(t, 1, 251, 47);
        Due.malformed("a delta of its own of 47", t, false);
        Due.table(t, 1, 251, 255);
        Due.malformed("a delta of 255", t, true);
        int[] all = new int[49];
        all[0] = 48;
        Due.table(t, all);
        Due.is("10: a frame at each place", t.frames(), 48);
        Due.is("11: the last of them", t.frame(47, 0), 47);
        int[] beyond = new int[50];
        beyond[0] = 49;
        Due.table(t, beyond);
        Due.malformed("one more than there are places", t, true);
    }

    private static void noSuchFrame() {
        FrameTyper t = Due.typer(1, NONE, NONE, NONE, 0);
        Due.table(t, 1, 65, 1);
        for (int i : new int[] {-1, 1, 2, 48, 1000, Integer.MAX_VALUE, Integer.MIN_VALUE}) {
            Due.is("11: frame(" + i + ", 0)", t.frame(i, 0), NONE);
        }
        for (int what : new int[] {-1, 11, 12, Integer.MAX_VALUE, Integer.MIN_VALUE}) {
            Due.is("11: frame(0, " + what + ")", t.frame(0, what), NONE);
        }
        Due.is("11: height", t.frame(0, 5), 1);
        Due.is("11: lowest of the stack", t.frame(0, 6), 1);
        Due.is("11: above the stack", t.frame(0, 7), NONE);
        Due.is("11: the highest what", t.frame(0, 10), NONE);
    }

    private static void endsTooEarlyOrLate() {
        FrameTyper t = Due.typer(1, NONE, NONE, NONE, 0);
        int[] whole = {3, 65, 7, 1, 253, 0, 1, 8, 9, 255, 1, 2, 1, 2, 2, 0, 7, 3};
        for (int n = 0; n <= whole.length; n++) {
            Due.table(t, java.util.Arrays.copyOf(whole, n));
            Due.malformed("the first " + n + " bytes", t, n < whole.length);
        }
        Due.table(t, java.util.Arrays.copyOf(whole, whole.length + 1));
        Due.malformed("one byte too many", t, true);
        Due.table(t, 0, 0);
        Due.malformed("no frame and a byte", t, true);
        Due.table(t, 0);
        Due.malformed("no frame", t, false);
        Due.is("10: no frame", t.frames(), 0);
        Due.is("11: no frame", t.frame(0, 0), NONE);
        Due.table(t, 255, 0);
        Due.malformed("255 frames told, one there", t, true);
    }

    private static void wrongTagsAndTypes() {
        for (int tag = 0; tag < 256; tag++) {
            FrameTyper t = new FrameTyper();
            Due.table(t, 1, tag);
            Due.malformed("tag " + tag + " alone", t, tag >= 48);
        }
        for (int type = 0; type < 256; type++) {
            FrameTyper t = new FrameTyper();
            Due.table(t, 1, 64, type);
            Due.malformed("type " + type, t, type > 2);
            Due.table(t, 1, 64, type, 0);
            Due.malformed("type " + type + " and a byte", t, type != 7 && type != 8);
            Due.table(t, 1, 64, 7, type);
            Due.malformed("an object of class " + type, t, type > 7);
            Due.table(t, 1, 252, 0, 8, type);
            Due.malformed("what was new at " + type, t, type > 47);
        }
    }

    private static void wrongCounts() {
        FrameTyper t = Due.typer(1, 1, NONE, NONE, 0);
        Due.table(t, 1, 253, 0, 1, 1);
        Due.malformed("four locals", t, false);
        Due.table(t, 1, 254, 0, 1, 1, 1);
        Due.malformed("five locals", t, true);
        Due.table(t, 1, 249, 0);
        Due.malformed("no locals", t, false);
        Due.table(t, 1, 248, 0);
        Due.malformed("less than no locals", t, true);
        Due.table(t, 2, 250, 0, 249, 0);
        Due.malformed("less than no locals in the end", t, true);
        Due.table(t, 1, 255, 0, 5, 1, 1, 1, 1, 1, 0);
        Due.malformed("five told locals", t, true);
        Due.table(t, 1, 255, 0, 0, 5, 1, 1, 1, 1, 1);
        Due.malformed("a stack of five", t, false);
        Due.table(t, 1, 255, 0, 0, 6, 1, 1, 1, 1, 1, 1);
        Due.malformed("a stack of six", t, true);
        Due.table(t, 1, 255, 0, 255, 0);
        Due.malformed("255 locals", t, true);
        Due.table(t, 1, 255, 0, 0, 255);
        Due.malformed("a stack of 255", t, true);
    }

    private static void theMethodDecides() {
        FrameTyper t = Due.typer(1, 1, 1, NONE, 0);
        Due.table(t, 1, 249, 0);
        Due.is("11: one local left", t.frame(0, 1), 1);
        t.method(18, 1, NONE, NONE, 0);
        Due.is("11: none left", t.frame(0, 1), 0);
        t.method(18, NONE, NONE, NONE, 0);
        Due.malformed("too few", t, true);
        Due.table(t, 1, 252, 0, 2);
        Due.is("11: after those of the method", t.frame(0, 2), 2);
        t.method(1, 1, 1, 1, 0);
        Due.malformed("too many", t, true);
    }
}
