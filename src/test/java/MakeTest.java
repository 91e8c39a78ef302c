/** Promise 13: make, what comes to each place, its faults, and how the frames are packed. */
public final class MakeTest {
    private static final int NONE = FrameTyper.NONE;

    public static void main(String[] args) {
        noFrames();
        goneTo();
        behindEnds();
        meets();
        meetsOfNews();
        loops();
        sameLocals();
        fewerLocals();
        moreLocals();
        fullForms();
        topsAtTheEnd();
        inTermsOfTheFrameBefore();
        notWhole();
        nothingComes();
        heights();
        otherFaults();
        noPlaceToGo();
        lowestFirst();
        tooLong();
        justNotTooLong();
        whatWasThereDoesNotMatter();
        Due.end("MakeTest");
    }

    private static void noFrames() {
        FrameTyper t = Due.typer(1, NONE, NONE, NONE, 0);
        Due.makes("no frame", t, Due.row(3, 0, 9, 7, 19), 0);
        Due.makes("none behind the last 21", t, Due.row(2, 21), 0);
    }

    private static void goneTo() {
        FrameTyper t = Due.typer(1, 17, NONE, NONE, 0);
        Due.makes("11 to itself", t, Due.row(11, 0), 1, 0);
        Due.makes("12 forward", t, Due.row(3, 0, 12, 3, 0, 19), 1, 5);
        Due.makes("13 forward", t, Due.row(5, 1, 13, 3, 0, 19), 1, 5);
        Due.makes("back", t, Due.row(0, 3, 0, 12, 254, 19), 1, 1);
        Due.makes("two to one place", t, Due.row(3, 0, 12, 6, 3, 0, 12, 2, 19), 1, 8);
    }

    private static void behindEnds() {
        FrameTyper t = Due.typer(1, NONE, NONE, NONE, 0);
        Due.makes("behind 11, gone to from before", t, Due.row(3, 0, 12, 4, 11, 0, 19), 2, 4, 1);
        Due.makes("behind 19", t, Due.row(3, 0, 12, 3, 19, 19), 1, 5);
        Due.makes("behind 21", t, Due.row(3, 0, 12, 4, 2, 21, 19), 1, 6);
    }

    /** Two objects on the stack of one place: what they meet in, by the byte that packs it. */
    private static void meets() {
        FrameTyper t = Due.typer(1, 18, 20, 16, 0);
        t.parent(2, 1);
        t.parent(3, 1);
        t.parent(4, 3);
        Due.makes("classes 2 and 4", t, Due.row(3, 0, 12, 6, 5, 1, 11, 4, 5, 2, 8, 19), 2, 8, 64 + 1, 7, 1);
        Due.makes("class 0 and 4", t, Due.row(3, 0, 12, 6, 5, 3, 11, 4, 5, 2, 8, 19), 2, 8, 64 + 1, 7, 0);
        Due.makes("NULL and 4", t, Due.row(3, 0, 12, 6, 2, 0, 11, 4, 5, 2, 8, 19), 2, 8, 64 + 1, 7, 4);
        Due.makes("2 and NULL", t, Due.row(3, 0, 12, 6, 5, 1, 11, 4, 2, 0, 8, 19), 2, 8, 64 + 1, 7, 2);
        Due.makes("NULL and NULL", t, Due.row(3, 0, 12, 6, 2, 0, 11, 4, 2, 0, 8, 19), 2, 8, 64 + 1, 2);
        Due.makes("INT and NULL", t, Due.row(3, 0, 12, 6, 3, 0, 11, 4, 2, 0, 8, 19), 2, 8, 64 + 1, 0);
        Due.makes("INT and 4", t, Due.row(3, 0, 12, 6, 3, 0, 11, 4, 5, 2, 8, 19), 2, 8, 64 + 1, 0);
        Due.makes("INT and INT", t, Due.row(3, 0, 12, 6, 3, 0, 11, 4, 3, 0, 8, 19), 2, 8, 64 + 1, 1);
        t.parent(3, 0);
        Due.makes("classes 2 and 4 apart", t, Due.row(3, 0, 12, 6, 5, 1, 11, 4, 5, 2, 8, 19),
                2, 8, 64 + 1, 7, 0);
        t.parent(3, 2);
        Due.makes("class 4 below 2", t, Due.row(3, 0, 12, 6, 5, 1, 11, 4, 5, 2, 8, 19),
                2, 8, 64 + 1, 7, 2);
    }

    private static void meetsOfNews() {
        FrameTyper t = Due.typer(1, NONE, NONE, NONE, 0);
        Due.makes("one new one", t, Due.row(14, 3, 3, 0, 12, 2, 15, 19), 1, 64 + 6, 8, 0);
        Due.makes("two new ones", t, Due.row(3, 0, 12, 6, 14, 3, 11, 4, 14, 3, 8, 19), 2, 8, 64 + 1, 0);
        Due.makes("a new one in a local", t, Due.row(14, 3, 6, 1, 3, 0, 12, 2, 19), 1, 252, 8, 8, 0);
        Due.makeFails("two new ones cannot be made", t, -610, 3, 0, 12, 6, 14, 3, 11, 4, 14, 3, 15, 19);
        Due.makes("a new one of the last round", t, Due.row(14, 3, 6, 1, 3, 0, 12, 250, 19), 1, 0);
        Due.makeFails("a new one of the last round on the stack", t, -300, 14, 3, 3, 0, 12, 252, 19);
    }

    private static void loops() {
        FrameTyper t = Due.typer(1, 17, 18, NONE, 0);
        t.parent(2, 1);
        Due.makes("back, and an object for the INT behind", t, Due.row(3, 0, 12, 254, 2, 6, 0, 19), 1, 0);
        // Local 2 is of class 2 at first and of class 1 from the second round on.
        Due.makes("the second round is told", t, Due.row(0, 5, 1, 6, 2, 3, 0, 12, 250, 19),
                1, 255, 1, 3, 1, 7, 1, 7, 1, 0);
        Due.makeFails("the second round has the fault", t, -601, 0, 3, 0, 8, 2, 6, 0, 11, 250);
        Due.makes("two loops", t, Due.row(3, 0, 12, 254, 3, 0, 12, 250, 19), 1, 0);
    }

    private static void sameLocals() {
        FrameTyper t = Due.typer(1, 17, NONE, NONE, 0);
        Due.makes("deltas", t, Due.row(3, 0, 12, 2, 3, 0, 12, 2, 19), 2, 4, 3);
        Due.makes("one on the stack", t, Due.row(5, 1, 3, 0, 12, 2, 8, 19), 1, 64 + 6, 7, 1);
        int[] code = new int[48];
        code[0] = 3;
        code[2] = 12;
        code[3] = 45;
        code[47] = 19;
        Due.makes("the farthest", t, code, 1, 47);
    }

    private static void fewerLocals() {
        FrameTyper t = Due.typer(1, 17, 17, 17, 0);
        // What is INT on one way and an object on the other is TOP where the ways meet.
        Due.makes("one less", t, Due.row(3, 0, 12, 6, 3, 0, 4, 3, 19), 1, 250, 8);
        Due.makes("two less", t, Due.row(3, 0, 12, 10, 3, 0, 4, 3, 3, 0, 4, 2, 19), 1, 249, 12);
        Due.makes("three less", t, Due.row(3, 0, 12, 14, 3, 0, 4, 3, 3, 0, 4, 2, 3, 0, 4, 1, 19),
                1, 248, 16);
        Due.makes("four less", t,
                Due.row(3, 0, 12, 17, 3, 0, 4, 3, 3, 0, 4, 2, 3, 0, 4, 1, 2, 6, 0, 19), 1, 255, 19, 0, 0);
        Due.makes("one less, and one on the stack", t, Due.row(2, 3, 0, 12, 6, 3, 0, 4, 3, 19),
                1, 255, 9, 3, 1, 7, 1, 7, 1, 1, 2);
    }

    private static void moreLocals() {
        FrameTyper t = Due.typer(NONE, NONE, NONE, NONE, 0);
        Due.makes("one more", t, Due.row(1, 0, 4, 0, 3, 0, 12, 2, 19), 1, 252, 8, 1);
        Due.makes("two more", t, Due.row(2, 6, 0, 14, 5, 9, 6, 1, 15, 1, 0, 12, 2, 19), 1, 253, 13, 2, 7, 5);
        Due.makes("three more", t, Due.row(1, 0, 4, 0, 1, 0, 4, 2, 1, 0, 12, 2, 19), 1, 254, 12, 1, 0, 1);
        Due.makes("four more", t, Due.row(1, 0, 4, 0, 1, 0, 4, 3, 1, 0, 12, 2, 19),
                1, 255, 12, 4, 1, 0, 0, 1, 0);
    }

    private static void fullForms() {
        FrameTyper t = Due.typer(1, 16, NONE, NONE, 0);
        Due.makes("two on the stack", t, Due.row(2, 14, 7, 3, 0, 12, 2, 19), 1, 255, 7, 2, 1, 7, 0, 2, 2, 8, 1);
        Due.makes("another local", t, Due.row(2, 6, 0, 1, 0, 12, 2, 19), 1, 255, 7, 2, 2, 7, 0, 0);
        Due.makes("one on the stack and one local more", t, Due.row(2, 6, 2, 2, 1, 0, 12, 2, 19),
                1, 255, 8, 3, 1, 7, 0, 2, 1, 2);
        t.method(1, 1, 1, 1, 0);
        Due.makes("five that meet five", t,
                Due.row(3, 0, 12, 9, 2, 2, 2, 2, 2, 11, 8, 2, 2, 2, 2, 1, 0, 8, 3, 0, 19),
                2, 11, 255, 5, 4, 1, 1, 1, 1, 5, 2, 2, 2, 2, 0);
        Due.makes("five on the stack", t, Due.row(2, 2, 2, 2, 3, 0, 11, 2, 19),
                1, 255, 8, 4, 1, 1, 1, 1, 5, 2, 2, 2, 2, 1);
    }

    private static void topsAtTheEnd() {
        FrameTyper t = Due.typer(1, 1, NONE, NONE, 0);
        Due.makes("all locals are TOP", t, Due.row(3, 0, 12, 8, 2, 6, 0, 2, 6, 1, 19), 1, 249, 10);
        Due.makes("the first alone is TOP", t, Due.row(3, 0, 12, 5, 2, 6, 0, 19), 1, 255, 7, 2, 0, 1, 0);
    }

    /** The ways of code that has frames with many and then with few locals. */
    private static void inTermsOfTheFrameBefore() {
        FrameTyper t = Due.typer(NONE, NONE, NONE, NONE, 0);
        Due.makes("the first of nothing, the second of the first", t,
                Due.row(1, 0, 4, 0, 1, 0, 12, 2, 1, 0, 4, 1, 1, 0, 12, 2, 19), 2, 252, 8, 1, 252, 7, 1);
        // At 8 local 3 alone is INT; at 15 it is INT or NULL, so that no local is left.
        Due.makes("four locals less", t, Due.row(1, 0, 4, 3, 1, 0, 12, 2, 1, 0, 12, 5, 2, 6, 3, 19),
                2, 255, 8, 4, 0, 0, 0, 1, 0, 255, 6, 0, 0);
        Due.makes("three locals less", t, Due.row(1, 0, 4, 2, 1, 0, 12, 2, 1, 0, 12, 5, 2, 6, 2, 19),
                2, 254, 8, 0, 0, 1, 248, 6);
    }

    private static void notWhole() {
        FrameTyper t = Due.typer(1, NONE, NONE, NONE, 0);
        Due.makeFails("empty code", t, -100);
        Due.makeFails("22", t, -100, 22);
        Due.makeFails("without x", t, -101, 0, 14);
        Due.makeFails("behind the last byte", t, -102, 3, 0);
        Due.makeFails("gone to", t, -102, 11, 2, 22);
        Due.makeFails("nothing comes to one that is not whole", t, -202, 11, 0, 22);
        int[] full = new int[48];
        Due.makeFails("behind 48 bytes", t, -148, full);
    }

    private static void nothingComes() {
        FrameTyper t = Due.typer(1, NONE, NONE, NONE, 0);
        Due.makeFails("behind 19", t, -201, 19, 19);
        Due.makeFails("the first of two", t, -203, 3, 0, 19, 0, 19);
        Due.makeFails("only when all else is right", t, -505, 11, 4, 19, 19, 0, 7);
    }

    private static void heights() {
        FrameTyper t = Due.typer(1, NONE, NONE, NONE, 0);
        Due.makeFails("at the place where they meet", t, -306, 2, 3, 0, 12, 3, 8, 19);
        Due.makeFails("at the next place", t, -305, 3, 0, 12, 3, 2, 19);
        Due.makeFails("at a place before", t, -300, 2, 11, 255);
        Due.makeFails("at another place before", t, -303, 0, 0, 0, 2, 11, 255);
        Due.makeFails("at a place gone to behind", t, -309, 3, 0, 12, 7, 2, 11, 4, 0, 0, 19);
        Due.makeFails("the next place before the one gone to", t, -309,
                3, 0, 12, 7, 2, 3, 0, 12, 249, 19);
    }

    private static void otherFaults() {
        FrameTyper t = Due.typer(1, 17, NONE, NONE, 0);
        Due.makeFails("4", t, -401, 0, 3, 4);
        Due.makeFails("4 of a class", t, -400, 14, 8);
        Due.makeFails("4 of a field", t, -400, 16, 6);
        Due.makeFails("4 of a routine", t, -400, 18, 6);
        Due.makeFails("5", t, -501, 0, 7);
        Due.makeFails("6", t, -602, 3, 0, 13, 0);
        Due.makeFails("6 of a local", t, -600, 3, 1, 19);
        Due.makeFails("7", t, -705, 2, 2, 2, 2, 2, 2);
    }

    private static void noPlaceToGo() {
        FrameTyper t = Due.typer(1, NONE, NONE, NONE, 0);
        Due.makeFails("behind the last byte", t, -800, 11, 2);
        Due.makeFails("in the middle", t, -800, 11, 3, 1, 0);
        Due.makeFails("into itself", t, -800, 11, 1);
        Due.makeFails("before 0", t, -801, 0, 11, 254);
        Due.makeFails("far before 0", t, -800, 11, 128);
        Due.makeFails("far behind", t, -800, 11, 127);
        Due.makeFails("behind one that is not whole", t, -800, 11, 3, 22, 19);
        Due.makeFails("8 before what comes to the next place", t, -802, 3, 0, 12, 77, 22);
        Due.makeFails("5 before 8", t, -500, 12, 77);
        Due.makeFails("6 before 8", t, -601, 2, 12, 77);
    }

    private static void lowestFirst() {
        FrameTyper t = Due.typer(1, NONE, NONE, NONE, 0);
        // Both ways have a fault: the lower one is told, though the other came there later.
        Due.makeFails("the lower of two faults", t, -504, 3, 0, 12, 4, 7, 0, 7);
        // The higher place is worked on before the lower one has anything.
        Due.makeFails("what has come is worked on first", t, -502, 11, 2, 7);
        // The way back to 1 makes local 0 TOP, and 1 is worked on again before 10 is at all.
        Due.makeFails("again before the higher one", t, -601, 0, 3, 0, 12, 7, 2, 6, 0, 11, 249, 7);
    }

    private static void tooLong() {
        FrameTyper t = Due.typer(16, 16, 16, 16, 0);
        Due.table(t, 7, 77);
        Due.code(t, longCode(8, 5, 0, 2));
        boolean thrown = false;
        try {
            t.make();
        } catch (IllegalStateException e) {
            thrown = true;
        }
        Due.is("13: a table of 1 + 8 * 15 bytes", thrown, true);
        Due.tableIs("13: the table stays", t, 7, 77);
        Due.makes("less is fine then", t, Due.row(19), 0);
    }

    private static void justNotTooLong() {
        FrameTyper t = Due.typer(16, 16, 16, 16, 0);
        Due.code(t, longCode(7, 5, 0, 5, 0, 2));
        Due.is("13: a table of 1 + 7 * 17 bytes", t.make(), 120);
        Due.is("13: its last byte", t.tableAt(119), 2);
        Due.is("13: its frames", t.frames(), 7);
        Due.is("13: checked", t.check(), 0);
    }

    /** Some types stay on the stack, and each 12 goes to the place behind it. */
    private static int[] longCode(int jumps, int... first) {
        int[] code = java.util.Arrays.copyOf(first, first.length + 4 * jumps + 1);
        int n = first.length;
        for (int k = 0; k < jumps; k++) {
            code[n++] = 1;
            code[n++] = k;
            code[n++] = 12;
            code[n++] = 2;
        }
        code[n] = 19;
        return code;
    }

    private static void whatWasThereDoesNotMatter() {
        FrameTyper t = Due.typer(1, NONE, NONE, NONE, 0);
        Due.table(t, 1, 200);
        Due.malformed("a malformed table", t, true);
        Due.code(t, 3, 0, 12, 2, 19);
        Due.is("13: make over a malformed table", t.make(), 2);
        Due.is("13: make again", t.make(), 2);
        Due.tableIs("13: made", t, 1, 4);
        Due.table(t, 0, 0);
        Due.is("13: the code stays", t.clear(), 5);
        Due.is("13: a fault after it", t.make(), -100);
    }
}
