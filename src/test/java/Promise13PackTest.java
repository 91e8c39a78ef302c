import java.util.Arrays;

/** Promise 13, make: each boundary case of meeting, of which frames there are, and of packing. */
public final class Promise13PackTest {
    private static final int NONE = FrameTyper.NONE;

    public static void main(String[] args) {
        Due.endAll(Promise13PackTest.class);
    }

    private static void makes(String what, int[] code, int... table) {
        Due.makes(what, new FrameTyper(), code, table);
    }

    // ---- "where several come, the locals and the stack meet type by type"

    private static final int[] TYPES = {0, 1, 2, 16, 17, 18, 19, 20, 21};
    /** What two of TYPES meet in; 2 and 5 are below 1, 3 below 2, and 4 below 0 alone. */
    private static final int[][] MEETS = {
        {0, 0, 0, 0, 0, 0, 0, 0, 0},
        {0, 1, 0, 0, 0, 0, 0, 0, 0},
        {0, 0, 2, 16, 17, 18, 19, 20, 21},
        {0, 0, 16, 16, 16, 16, 16, 16, 16},
        {0, 0, 17, 16, 17, 17, 17, 16, 17},
        {0, 0, 18, 16, 17, 18, 18, 16, 17},
        {0, 0, 19, 16, 17, 18, 19, 16, 17},
        {0, 0, 20, 16, 16, 16, 16, 20, 16},
        {0, 0, 21, 16, 17, 17, 17, 16, 21}};

    private static FrameTyper family() {
        FrameTyper t = new FrameTyper();
        t.parent(2, 1);
        t.parent(3, 2);
        t.parent(5, 1);
        return t;
    }

    /** Code that gives a type, not TOP. */
    private static int[] give(int type) {
        return type == 1 ? Due.row(1, 0) : type == 2 ? Due.row(2) : Due.row(2, 20, type - 16);
    }

    /** Code that puts a type in local x, in which TOP is already. */
    private static int[] put(int type, int x) {
        return type == 0 ? Due.row() : Due.join(give(type), Due.row(type == 1 ? 4 : 6, x));
    }

    /** Two ways that part at 2 and meet at the end. */
    private static int[] ways(int[] one, int[] other, int... end) {
        int[] split = {1, 0, 12, 4 + one.length};
        return Due.join(split, one, Due.row(11, 2 + other.length), other, end);
    }

    static void meetInALocal() {
        for (int x = 0; x <= 3; x++) {
            for (int a = 1; a < TYPES.length; a++) {
                for (int b = 1; b < TYPES.length; b++) {
                    FrameTyper t = family();
                    Due.code(t, ways(put(TYPES[a], x), put(TYPES[b], x), 19));
                    Due.is("make() of " + a + " and " + b, t.make() > 0, true);
                    Due.is(TYPES[a] + " and " + TYPES[b], t.frame(1, 1 + x), MEETS[a][b]);
                }
            }
        }
    }

    static void meetOfTopInALocal() {
        for (int a = 1; a < TYPES.length; a++) {
            FrameTyper t = family();
            Due.code(t, ways(put(TYPES[a], 0), Due.row(0), 19));
            Due.is("make()", t.make() > 0, true);
            Due.is(TYPES[a] + " and TOP", t.frame(1, 1), 0);
            Due.code(t, ways(Due.row(), Due.join(Due.row(0), put(TYPES[a], 0)), 19));
            Due.is("make()", t.make() > 0, true);
            Due.is("TOP and " + TYPES[a], t.frame(1, 1), 0);
        }
    }

    static void meetOnTheStack() {
        for (int a = 1; a < TYPES.length; a++) {
            for (int b = 1; b < TYPES.length; b++) {
                FrameTyper t = family();
                Due.code(t, ways(give(TYPES[a]), give(TYPES[b]), 8, 19));
                Due.is("make() of " + a + " and " + b, t.make() > 0, true);
                Due.is(TYPES[a] + " and " + TYPES[b], t.frame(1, 6), MEETS[a][b]);
            }
        }
    }

    static void meetOfAFullStack() {
        for (int i = 0; i < 5; i++) {
            int[] nulls = Due.row(2, 2, 2, 2, 2);
            int[] other = Due.join(Due.times(i, 2), Due.row(1, 0), Due.times(4 - i, 2));
            FrameTyper t = new FrameTyper();
            Due.code(t, ways(nulls, other, 19));
            Due.is("make()", t.make() > 0, true);
            for (int k = 0; k < 5; k++) {
                Due.is("type " + k, t.frame(1, 6 + k), k == i ? 0 : 2);
            }
        }
    }

    static void meetOfNewOnes() {
        makes("the same one", Due.row(14, 3, 1, 0, 12, 2, 8, 19), 1, 64 + 6, 8, 0);
        makes("two of one class", ways(Due.row(14, 3), Due.row(14, 3), 8, 19), 2, 8, 64 + 1, 0);
        makes("one and NULL", ways(Due.row(14, 3), Due.row(2), 8, 19), 2, 8, 64 + 0, 0);
        makes("one and an object of its class", ways(Due.row(14, 3), Due.row(2, 20, 3), 8, 19),
                2, 8, 64 + 2, 0);
        makes("one and INT", ways(Due.row(14, 3), Due.row(1, 0), 8, 19), 2, 8, 64 + 1, 0);
        makes("one and the same, made", Due.row(14, 3, 6, 0, 1, 0, 12, 5, 5, 0, 15, 19), 1, 11);
    }

    static void aNewOneOfTheLastRoundIsTop() {
        makes("in a local", Due.row(14, 3, 6, 0, 11, 252), 1, 0);
    }

    // ---- "Then there is a frame for each place that is gone to ..."

    static void noFrameWhereNoneGoes() {
        makes("no frame", Due.row(0, 1, 0, 4, 0, 19), 0);
    }

    static void aFrameWhereOneGoes() {
        makes("11", Due.row(11, 2, 19), 1, 2);
        makes("12", Due.row(1, 0, 12, 2, 19), 1, 4);
        makes("13", Due.row(2, 13, 2, 19), 1, 3);
    }

    static void aFrameAtPlace0() {
        makes("back to 0", Due.row(0, 11, 255), 1, 0);
    }

    static void aFrameAtPlace47() {
        int[] code = Due.times(48, 0);
        code[0] = 2;
        code[1] = 13;
        code[2] = 46;
        code[47] = 19;
        makes("on to 47", code, 1, 47);
    }

    static void oneFrameWhereSeveralGo() {
        makes("three", Due.row(2, 13, 8, 2, 13, 5, 2, 13, 2, 19), 1, 9);
    }

    // "... or that stands behind 11, 19 or 21"
    static void aFrameBehind11And19And21() {
        makes("11", Due.row(2, 13, 4, 11, 0, 19), 2, 3, 1);
        makes("19", Due.row(2, 13, 3, 19, 19), 1, 4);
        makes("21", Due.row(2, 13, 4, 2, 21, 19), 1, 5);
    }

    static void noFrameBehindTheLastByte() {
        makes("behind 11", Due.row(11, 0), 1, 0);
        makes("behind 19", Due.row(19), 0);
        makes("behind 21", Due.row(2, 21), 0);
        int[] code = Due.times(48, 0);
        code[47] = 19;
        makes("behind place 47", code, 0);
    }

    static void noFrameBehind12And13() {
        makes("12", Due.row(1, 0, 12, 3, 0, 19), 1, 5);
        makes("13", Due.row(2, 13, 3, 0, 19), 1, 4);
    }

    static void asManyFramesAsThereCanBe() {
        int[] code = new int[48];
        for (int i = 0; i < 46; i += 2) {
            code[i] = 11;
            code[i + 1] = 2;
        }
        code[46] = 0;
        code[47] = 19;
        int[] table = Due.join(Due.row(23, 2), Due.times(22, 1));
        makes("23 of them", code, table);
    }

    // ---- "of its locals those at the end that are TOP are left out"

    static void topsAtTheEndAreLeftOut() {
        FrameTyper t = Due.typer(1, 1, 1, 1, 0);
        for (int n = 0; n <= 4; n++) {
            int[] one = {};
            for (int x = n; x < 4; x++) {
                one = Due.join(one, put(2, x));
            }
            int delta = 4 + one.length + 2;
            int[] due = n == 4 ? Due.row(2, 6, 0) : n == 0
                    ? Due.row(2, delta, 255, 0, 0, 0) : Due.row(2, delta, 247 + n, 0);
            Due.makes(n + " are left", t, ways(one, Due.row(0), 19), due);
        }
    }

    static void topsBeforeTheEndAreTold() {
        makes("local 3 alone", Due.join(put(1, 3), Due.row(11, 2, 19)), 1, 255, 6, 4, 0, 0, 0, 1, 0);
        makes("local 2 alone", Due.join(put(1, 2), Due.row(11, 2, 19)), 1, 254, 6, 0, 0, 1);
        makes("local 1 alone", Due.join(put(1, 1), Due.row(11, 2, 19)), 1, 253, 6, 0, 1);
        makes("local 0 alone", Due.join(put(1, 0), Due.row(11, 2, 19)), 1, 252, 6, 1);
    }

    // ---- "each takes the first form that can tell it: 0 .. 63, ..."

    static void form0To63OfTheFirstAtEachPlace() {
        for (int place = 3; place <= 47; place++) {
            int[] code = Due.times(place + 1, 0);
            code[0] = 2;
            code[1] = 13;
            code[2] = place - 1;
            code[place] = 19;
            makes("place " + place, code, 1, place);
        }
    }

    static void form0To63OfTheSecondAtEachPlace() {
        for (int place = 3; place <= 46; place++) {
            int[] code = Due.times(place + 2, 0);
            code[0] = 11;
            code[1] = place;
            code[place] = 11;
            code[place + 1] = 256 - place + 2;
            makes("places 2 and " + place, code, 2, 2, place - 3);
        }
    }

    static void form0To63WithTheSameLocals() {
        FrameTyper t = Due.typer(1, 17, 23, 1, 0);
        Due.makes("four", t, Due.row(11, 2, 11, 2, 19), 2, 2, 1);
    }

    // "... 64 .. 127 ..."
    static void form64To127WithEachType() {
        FrameTyper t = Due.typer(1, 17, NONE, NONE, 0);
        Due.makes("INT", t, Due.row(3, 0, 11, 2, 19), 1, 64 + 4, 1);
        Due.makes("NULL", t, Due.row(2, 11, 2, 19), 1, 64 + 3, 2);
        Due.makes("class 0", t, Due.row(2, 20, 0, 11, 2, 19), 1, 64 + 5, 7, 0);
        Due.makes("class 7", t, Due.row(2, 20, 7, 11, 2, 19), 1, 64 + 5, 7, 7);
        Due.makes("new", t, Due.row(0, 14, 7, 11, 2, 19), 1, 64 + 5, 8, 1);
    }

    static void form64To127OfANewOneFarOn() {
        int[] code = Due.join(Due.times(43, 0), Due.row(14, 0, 11, 2, 19));
        makes("at place 43, told at place 47", code, 1, 64 + 47, 8, 43);
    }

    static void form64To127NotWithTwo() {
        makes("two", Due.row(2, 2, 11, 2, 19), 1, 255, 4, 0, 2, 2, 2);
        makes("five", Due.row(2, 2, 2, 2, 2, 11, 2, 19), 1, 255, 7, 0, 5, 2, 2, 2, 2, 2);
    }

    static void form64To127NotWithOtherLocals() {
        FrameTyper t = Due.typer(1, NONE, NONE, NONE, 0);
        Due.makes("one more", t, Due.join(put(1, 1), Due.row(2, 11, 2, 19)), 1, 255, 7, 2, 1, 1, 1, 2);
        Due.makes("another", t, Due.join(put(2, 0), Due.row(2, 11, 2, 19)), 1, 255, 6, 1, 2, 1, 2);
        Due.makes("one less", t, ways(Due.join(put(2, 0), Due.row(2)), Due.row(2), 19),
                2, 10, 255, 0, 0, 1, 2);
    }

    // "... 247 ..." and "... 251 ..." would come first only for a DELTA above 63.
    static void forms247And251AreNeverTaken() {
        int[] code = Due.times(48, 0);
        code[0] = 2;
        code[1] = 13;
        code[2] = 46;
        code[47] = 19;
        makes("DELTA 47 of 0 .. 63", code, 1, 47);
        code[0] = 2;
        code[1] = 2;
        code[2] = 13;
        code[3] = 45;
        makes("DELTA 47 of 64 .. 127", code, 1, 64 + 47, 2);
    }

    // "... 248 .. 250 ..."
    static void form248To250ByHowManyAreLess() {
        FrameTyper t = Due.typer(1, 1, 1, 1, 0);
        for (int less = 1; less <= 4; less++) {
            int[] wipe = {};
            for (int x = 4 - less; x < 4; x++) {
                wipe = Due.join(wipe, put(2, x));
            }
            int[] code = Due.join(Due.row(3, 0, 12, 2 + wipe.length), wipe, Due.row(19));
            int place = code.length - 1;
            int[] due = less == 4 ? Due.row(1, 255, place, 0, 0) : Due.row(1, 251 - less, place);
            Due.makes(less + " less", t, code, due);
        }
    }

    static void form248To250NotWithAStack() {
        FrameTyper t = Due.typer(1, 1, NONE, NONE, 0);
        Due.makes("one on it", t, Due.row(2, 3, 0, 12, 5, 2, 6, 1, 19), 1, 255, 8, 1, 1, 1, 2);
    }

    static void form248To250NotWithAnotherLocal() {
        FrameTyper t = Due.typer(1, 1, 1, NONE, 0);
        Due.makes("local 0 is another, and 2 less", t,
                Due.join(put(2, 0), Due.row(3, 1, 12, 5, 2, 6, 2, 19)), 1, 255, 10, 2, 2, 1, 0);
    }

    // "... 252 .. 254 ..."
    static void form252To254ByHowManyAreMore() {
        for (int more = 1; more <= 4; more++) {
            int[] fill = {};
            for (int x = 0; x < more; x++) {
                fill = Due.join(fill, put(x % 2 == 0 ? 1 : 23, x));
            }
            int[] types = {1, 7, 7, 1, 7, 7};
            int bytes = more + more / 2;
            int place = fill.length + 2;
            int[] due = more == 4
                    ? Due.join(Due.row(1, 255, place, 4), types, Due.row(0))
                    : Due.join(Due.row(1, 251 + more, place), Arrays.copyOf(types, bytes));
            makes(more + " more", Due.join(fill, Due.row(11, 2, 19)), due);
        }
    }

    static void form252To254NotWithAStack() {
        makes("one on it", Due.join(put(1, 0), Due.row(2, 11, 2, 19)), 1, 255, 7, 1, 1, 1, 2);
    }

    static void form252To254NotWithAnotherLocal() {
        FrameTyper t = Due.typer(1, NONE, NONE, NONE, 0);
        Due.makes("local 0 is another, and 1 more", t,
                Due.join(put(2, 0), put(1, 1), Due.row(11, 2, 19)), 1, 255, 9, 2, 2, 1, 0);
    }

    // "... 255."
    static void form255WithAllThatAFrameCanHave() {
        int[] fill = Due.join(put(23, 0), put(23, 1), put(23, 2), put(23, 3));
        int[] types = {23, 23, 23, 23};
        int[] stack = {23, 23, 23, 23, 23};
        int[] code = Due.join(fill, Due.row(5, 0, 5, 0, 5, 0, 5, 0, 5, 0, 11, 2, 19));
        makes("all", code, Due.join(Due.row(1), Due.frame(code.length - 1, types, stack)));
    }

    static void form255WithAsManyOtherLocals() {
        FrameTyper t = Due.typer(1, 1, 1, 1, 0);
        for (int x = 0; x <= 3; x++) {
            int[] types = {1, 1, 1, 1};
            types[x] = 2;
            Due.makes("local " + x, t, Due.join(put(2, x), Due.row(11, 2, 19)),
                    Due.join(Due.row(1), Due.frame(5, types, Due.row())));
        }
    }

    // "in terms of the frame before (for the first one, of what the method takes ...)"
    static void theSecondIsToldByTheFirst() {
        FrameTyper t = Due.typer(1, NONE, NONE, NONE, 0);
        int[] go = {11, 2};
        Due.makes("one more, and one more again", t, Due.join(put(1, 1), go, put(1, 2), go, Due.row(19)),
                2, 252, 6, 1, 252, 5, 1);
        Due.makes("the same as the method, but not as the first", t,
                Due.join(put(2, 0), go, put(1, 0), go, Due.row(19)), 2, 255, 5, 1, 2, 0, 255, 5, 1, 1, 0);
        Due.makes("the stack of the first does not matter", t,
                Due.join(Due.row(2), go, Due.row(8), go, Due.row(19)), 2, 64 + 3, 2, 2);
    }

    // ---- "IllegalStateException when the table would have more than 120 bytes."

    /** Types stay on the stack, and each 12 goes to the place behind it: full frames. */
    private static int[] jumps(int count, int... first) {
        int[] code = first;
        for (int i = 0; i < count; i++) {
            code = Due.join(code, Due.row(1, 0, 12, 2));
        }
        return Due.join(code, Due.row(19));
    }

    static void oneHundredAndTwentyBytesAreMade() {
        FrameTyper t = Due.typer(16, 16, 16, 16, 0);
        Due.code(t, jumps(7, 5, 0, 5, 0, 2));
        Due.is("1 + 7 * 17 bytes", t.make(), 120);
        Due.is("the first byte", t.tableAt(0), 7);
        Due.is("the last byte", t.tableAt(119), 2);
        Due.is("none behind it", t.tableAt(120), NONE);
        Due.is("frames()", t.frames(), 7);
        Due.is("check()", t.check(), 0);
    }

    static void oneHundredAndTwentyOneBytesAreRefused() {
        FrameTyper t = Due.typer(16, 16, 16, 16, 0);
        Due.code(t, jumps(8, 5, 0, 2));
        Due.is("1 + 8 * 15 bytes", Due.throwsOnMake(t), true);
    }

    static void manyMoreAreRefused() {
        FrameTyper t = Due.typer(16, 16, 16, 16, 0);
        Due.code(t, jumps(9, 5, 0, 5, 0, 5, 0, 5, 0));
        Due.is("1 + 9 * 20 bytes", Due.throwsOnMake(t), true);
    }

    static void nothingChangesWhenItThrows() {
        FrameTyper t = Due.typer(16, 16, 16, 16, 0);
        Due.table(t, 1, 5);
        Due.code(t, jumps(8, 5, 0, 2));
        Due.is("make() throws", Due.throwsOnMake(t), true);
        Due.tableIs("the table stays", t, 1, 5);
        Due.is("make() throws again", Due.throwsOnMake(t), true);
        Due.is("the code stays", t.clear(), 36);
        Due.makes("less is made then", t, Due.row(11, 2, 19), 1, 2);
    }

    static void aFaultComesBeforeTooManyBytes() {
        FrameTyper t = Due.typer(16, 16, 16, 16, 0);
        Due.makeFails("fault 2 behind it all", t, -236, Due.join(jumps(8, 5, 0, 2), Due.row(19)));
    }

    // ---- "Makes a table for the code: how many bytes it has."

    static void aTableOfOneByte() {
        FrameTyper t = new FrameTyper();
        Due.table(t, Due.times(120, 9));
        Due.makes("no frame, over a full table", t, Due.row(19), 0);
    }

    static void overAnEmptyTable() {
        FrameTyper t = new FrameTyper();
        t.table(0, 0);
        Due.makes("no frame", t, Due.row(19), 0);
        t.table(0, 0);
        Due.makes("one frame", t, Due.row(11, 2, 19), 1, 2);
    }

    static void overAMalformedTable() {
        FrameTyper t = new FrameTyper();
        Due.table(t, 1, 200);
        Due.malformed("tag 200", t, true);
        Due.makes("one frame", t, Due.row(11, 2, 19), 1, 2);
    }

    static void framesOfTheLastTimeAreGone() {
        FrameTyper t = new FrameTyper();
        int[] code = Due.times(48, 0);
        code[0] = 2;
        code[1] = 13;
        code[2] = 46;
        code[45] = 2;
        code[46] = 21;
        code[47] = 19;
        Due.makes("at place 47", t, code, 1, 47);
        Due.makes("at place 0", t, Due.row(11, 0), 1, 0);
        code[0] = 0;
        code[1] = 0;
        code[2] = 0;
        code[45] = 0;
        code[46] = 0;
        Due.makes("no frame", t, code, 0);
    }

    static void twiceIsAsOnce() {
        FrameTyper t = new FrameTyper();
        Due.makes("once", t, Due.row(11, 2, 19), 1, 2);
        Due.is("twice", t.make(), 2);
        Due.tableIs("twice", t, 1, 2);
    }
}
