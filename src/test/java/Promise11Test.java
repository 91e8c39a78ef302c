/** Promise 11, frame: its sentences and their boundary cases, a test for each. */
public final class Promise11Test {
    private static final int NONE = FrameTyper.NONE;

    public static void main(String[] args) {
        Due.endAll(Promise11Test.class);
    }

    /** The method takes 1, 17, 18, 19. */
    private static FrameTyper withTable(int... table) {
        FrameTyper t = Due.typer(1, 17, 18, 19, 0);
        Due.table(t, table);
        return t;
    }

    /** The method takes none. */
    private static FrameTyper bareWithTable(int... table) {
        FrameTyper t = new FrameTyper();
        Due.table(t, table);
        return t;
    }

    // "Of frame i: what = 0 its place ..." (DELTA for the first one)
    static void theFirstPlaceIsDelta() {
        Due.is("tag 0", withTable(1, 0).frame(0, 0), 0);
        Due.is("tag 47", withTable(1, 47).frame(0, 0), 47);
        Due.is("tag 64", withTable(1, 64, 1).frame(0, 0), 0);
        Due.is("tag 111", withTable(1, 111, 1).frame(0, 0), 47);
        Due.is("247, 0", withTable(1, 247, 0, 1).frame(0, 0), 0);
        Due.is("247, 47", withTable(1, 247, 47, 1).frame(0, 0), 47);
        Due.is("251, 0", withTable(1, 251, 0).frame(0, 0), 0);
        Due.is("251, 47", withTable(1, 251, 47).frame(0, 0), 47);
    }

    /** Each form of a frame, with this DELTA, for a method that takes 1, 17, 18, 19. */
    private static int[][] everyForm(int delta) {
        return new int[][] {
            {1, delta}, {1, 64 + delta, 2}, {1, 247, delta, 2}, {1, 248, delta}, {1, 249, delta},
            {1, 250, delta}, {1, 251, delta}, {1, 255, delta, 1, 2, 1, 2}};
    }

    static void everyPlaceByEveryForm() {
        for (int place = 0; place <= 47; place++) {
            for (int[] table : everyForm(place)) {
                Due.is("tag " + table[1] + " at " + place, withTable(table).frame(0, 0), place);
            }
            for (int tag = 252; tag <= 254; tag++) {
                int[] table = Due.join(Due.row(1, tag, place), Due.times(tag - 251, 2));
                Due.is("tag " + tag + " at " + place, bareWithTable(table).frame(0, 0), place);
            }
        }
    }

    // "... for others the place of the one before and DELTA and 1"
    static void laterPlacesAreDeltaAnd1On() {
        FrameTyper t = withTable(4, 0, 0, 251, 0, 44);
        Due.is("the first", t.frame(0, 0), 0);
        Due.is("DELTA 0", t.frame(1, 0), 1);
        Due.is("DELTA 0 as a byte", t.frame(2, 0), 2);
        Due.is("DELTA 44", t.frame(3, 0), 47);
    }

    // "in terms of the frame before (for the first one, of what the method takes, ...)"
    static void theFirstIsInTermsOfTheMethod() {
        Due.frameIs("tag 0", withTable(1, 0), 0, 0, 1, 17, 18, 19, 0);
        Due.frameIs("tag 0 of none", bareWithTable(1, 0), 0, 0, 0, 0, 0, 0, 0);
        Due.frameIs("tag 64", withTable(1, 64, 2), 0, 0, 1, 17, 18, 19, 1, 2);
        Due.frameIs("251", withTable(1, 251, 0), 0, 0, 1, 17, 18, 19, 0);
    }

    static void othersAreInTermsOfTheOneBefore() {
        FrameTyper t = withTable(4, 248, 0, 0, 252, 0, 2, 0);
        Due.frameIs("248", t, 0, 0, 1, 0, 0, 0, 0);
        Due.frameIs("the same", t, 1, 1, 1, 0, 0, 0, 0);
        Due.frameIs("252", t, 2, 2, 1, 2, 0, 0, 0);
        Due.frameIs("the same again", t, 3, 3, 1, 2, 0, 0, 0);
    }

    static void theStackIsNeverThatOfTheOneBefore() {
        int[] five = {255, 0, 1, 1, 5, 1, 1, 1, 1, 1};
        Due.frameIs("tag 0", withTable(Due.join(Due.row(2), five, Due.row(0))), 1, 1, 1, 0, 0, 0, 0);
        Due.frameIs("tag 64", withTable(Due.join(Due.row(2), five, Due.row(64, 2))),
                1, 1, 1, 0, 0, 0, 1, 2);
        Due.frameIs("247", withTable(Due.join(Due.row(2), five, Due.row(247, 0, 2))),
                1, 1, 1, 0, 0, 0, 1, 2);
        Due.frameIs("250", withTable(Due.join(Due.row(2), five, Due.row(250, 0))),
                1, 1, 0, 0, 0, 0, 0);
        Due.frameIs("251", withTable(Due.join(Due.row(2), five, Due.row(251, 0))),
                1, 1, 1, 0, 0, 0, 0);
        Due.frameIs("252", withTable(Due.join(Due.row(2), five, Due.row(252, 0, 2))),
                1, 1, 1, 2, 0, 0, 0);
        Due.frameIs("255", withTable(Due.join(Due.row(2), five, Due.row(255, 0, 0, 1, 2))),
                1, 1, 0, 0, 0, 0, 1, 2);
    }

    // "248 .. 250, DELTA: the locals but the last 251 - tag"
    static void fewerLocals() {
        Due.frameIs("250", withTable(1, 250, 3), 0, 3, 1, 17, 18, 0, 0);
        Due.frameIs("249", withTable(1, 249, 3), 0, 3, 1, 17, 0, 0, 0);
        Due.frameIs("248", withTable(1, 248, 3), 0, 3, 1, 0, 0, 0, 0);
        Due.frameIs("down to none", withTable(2, 248, 3, 250, 0), 1, 4, 0, 0, 0, 0, 0);
    }

    static void aTopAtTheEndIsOneOfTheLast() {
        FrameTyper t = bareWithTable(2, 254, 0, 1, 2, 0, 250, 0);
        Due.frameIs("254", t, 0, 0, 1, 2, 0, 0, 0);
        Due.frameIs("250 takes the TOP", t, 1, 1, 1, 2, 0, 0, 0);
    }

    // "252 .. 254, DELTA, and tag - 251 types: these locals more"
    static void moreLocals() {
        Due.frameIs("252", bareWithTable(1, 252, 3, 2), 0, 3, 2, 0, 0, 0, 0);
        Due.frameIs("253", bareWithTable(1, 253, 3, 1, 7, 7), 0, 3, 1, 23, 0, 0, 0);
        Due.frameIs("254", bareWithTable(1, 254, 3, 0, 8, 47, 7, 0), 0, 3, 0, 111, 16, 0, 0);
        Due.frameIs("up to four", bareWithTable(2, 254, 3, 1, 1, 1, 252, 0, 2), 1, 4, 1, 1, 1, 2, 0);
    }

    static void moreLocalsBehindTops() {
        FrameTyper t = bareWithTable(2, 253, 0, 1, 0, 252, 0, 2);
        Due.frameIs("behind the TOP", t, 1, 1, 1, 0, 2, 0, 0);
    }

    // "255, DELTA, a number of locals, their types, a number of types on the stack, these."
    static void allThatAFrameCanHave() {
        FrameTyper t = bareWithTable(1, 255, 9, 4, 7, 7, 8, 47, 2, 1, 5, 1, 2, 0, 8, 0, 7, 0);
        Due.frameIs("255", t, 0, 9, 23, 111, 2, 1, 5, 1, 2, 0, 64, 16);
    }

    static void nothingThatAFrameMustHave() {
        FrameTyper t = withTable(2, 255, 9, 0, 0, 0);
        Due.frameIs("255", t, 0, 9, 0, 0, 0, 0, 0);
        Due.frameIs("the same locals, none", t, 1, 10, 0, 0, 0, 0, 0);
    }

    // "1 .. 4 the types of locals 0 .. 3" (those behind them are TOP)
    static void localsThatAreNotToldAreTop() {
        for (int n = 0; n <= 4; n++) {
            int[] table = Due.join(Due.row(1, 255, 0, n), Due.times(n, 2), Due.row(0));
            FrameTyper t = withTable(table);
            for (int k = 1; k <= 4; k++) {
                Due.is("local " + (k - 1) + " of " + n, t.frame(0, k), k <= n ? 2 : 0);
            }
        }
    }

    // "A type is a byte 0, 1, 2 for TOP, INT, NULL; 7 and a class 0 .. 7; 8 and a place 0 .. 47"
    // ("0 TOP, 1 INT, 2 NULL, 16 + c an OBJECT of class c, 64 + p what was NEW at place p")
    static void everyTypeThatATableCanTell() {
        for (int type = 0; type <= 2; type++) {
            tellsType(type, type);
        }
        for (int c = 0; c <= 7; c++) {
            tellsType(16 + c, 7, c);
        }
        for (int place = 0; place <= 47; place++) {
            tellsType(64 + place, 8, place);
        }
    }

    /** In a local and on the stack, by each form that tells of types. */
    private static void tellsType(int type, int... bytes) {
        FrameTyper t = bareWithTable(Due.join(Due.row(1, 64), bytes));
        Due.frameIs("tag 64, " + type, t, 0, 0, 0, 0, 0, 0, 1, type);
        Due.table(t, Due.join(Due.row(1, 247, 0), bytes));
        Due.frameIs("247, " + type, t, 0, 0, 0, 0, 0, 0, 1, type);
        Due.table(t, Due.join(Due.row(1, 252, 0), bytes));
        Due.frameIs("252, " + type, t, 0, 0, type, 0, 0, 0, 0);
        Due.table(t, Due.join(Due.row(1, 254, 0, 1), bytes, Due.row(1)));
        Due.frameIs("254, " + type, t, 0, 0, 1, type, 1, 0, 0);
        Due.table(t, Due.join(Due.row(1, 255, 0, 2, 1), bytes, Due.row(2), bytes, Due.row(1)));
        Due.frameIs("255, " + type, t, 0, 0, 1, type, 0, 0, 2, type, 1);
    }

    // "5 how high the stack is, 6 .. 10 its types (NONE above it)"
    static void everyHeightOfTheStack() {
        for (int n = 0; n <= 5; n++) {
            int[] table = Due.join(Due.row(1, 255, 0, 0, n), Due.times(n, 2));
            FrameTyper t = bareWithTable(table);
            Due.is("height " + n, t.frame(0, 5), n);
            for (int k = 6; k <= 10; k++) {
                Due.is("what " + k + " of height " + n, t.frame(0, k), k - 6 < n ? 2 : NONE);
            }
        }
    }

    static void aTopOnTheStackIsNotNone() {
        FrameTyper t = bareWithTable(1, 64, 0);
        Due.is("the lowest", t.frame(0, 6), 0);
        Due.is("above it", t.frame(0, 7), NONE);
    }

    static void theLastTypeOfTheStackIsTheTopmost() {
        // The frame at place 1 has NULL below and INT on top, which 4 takes.
        FrameTyper t = bareWithTable(1, 255, 1, 0, 2, 2, 1);
        Due.is("the lowest", t.frame(0, 6), 2);
        Due.is("the topmost", t.frame(0, 7), 1);
        Due.checks("4 takes the INT", t, 0, 19, 4, 0, 6, 0, 19);
    }

    static void oldTypesOfAHigherStackAreNotSeen() {
        FrameTyper t = bareWithTable(1, 255, 0, 0, 5, 1, 1, 1, 1, 1);
        Due.is("five high", t.frame(0, 10), 1);
        Due.table(t, 1, 64, 2);
        Due.frameIs("one high then", t, 0, 0, 0, 0, 0, 0, 1, 2);
    }

    // "NONE when there is no such frame ..."
    static void noFrameAtAll() {
        FrameTyper t = bareWithTable(0);
        for (int what = -1; what <= 11; what++) {
            Due.is("frame(0, " + what + ")", t.frame(0, what), NONE);
        }
    }

    static void behindTheLastFrame() {
        FrameTyper t = bareWithTable(3, 0, 0, 0);
        Due.is("frame(2, 0)", t.frame(2, 0), 2);
        for (int what = -1; what <= 11; what++) {
            Due.is("frame(3, " + what + ")", t.frame(3, what), NONE);
        }
    }

    static void beforeTheFirstFrame() {
        FrameTyper t = bareWithTable(3, 0, 0, 0);
        for (int what = -1; what <= 11; what++) {
            Due.is("frame(-1, " + what + ")", t.frame(-1, what), NONE);
        }
    }

    static void farFrames() {
        FrameTyper t = bareWithTable(3, 0, 0, 0);
        for (int i : new int[] {4, 48, 256, 65536, Integer.MAX_VALUE, Integer.MIN_VALUE}) {
            Due.is("frame(" + i + ", 0)", t.frame(i, 0), NONE);
            Due.is("frame(" + i + ", 1)", t.frame(i, 1), NONE);
        }
    }

    static void theLastOfFortyEight() {
        FrameTyper t = bareWithTable(Due.join(Due.row(48), Due.times(48, 0)));
        Due.is("frame(47, 0)", t.frame(47, 0), 47);
        Due.is("frame(48, 0)", t.frame(48, 0), NONE);
    }

    static void framesOfALongerTableAreGone() {
        FrameTyper t = bareWithTable(3, 0, 0, 0);
        Due.is("frame(2, 0)", t.frame(2, 0), 2);
        Due.table(t, 1, 5);
        Due.is("frame(0, 0)", t.frame(0, 0), 5);
        Due.is("frame(1, 0)", t.frame(1, 0), NONE);
        Due.is("frame(2, 0)", t.frame(2, 0), NONE);
    }

    // "... or what is not 0 .. 10."
    static void whatBelow0() {
        Due.is("frame(0, -1)", withTable(1, 64, 1).frame(0, -1), NONE);
    }

    static void what10IsTheLast() {
        FrameTyper t = bareWithTable(1, 255, 0, 0, 5, 1, 1, 1, 1, 2);
        Due.is("frame(0, 10)", t.frame(0, 10), 2);
        Due.is("frame(0, 11)", t.frame(0, 11), NONE);
    }

    static void farWhats() {
        FrameTyper t = bareWithTable(2, 255, 0, 4, 1, 1, 1, 1, 5, 1, 1, 1, 1, 1, 0);
        for (int what : new int[] {-2, 12, 256, 65536, Integer.MAX_VALUE, Integer.MIN_VALUE}) {
            Due.is("frame(0, " + what + ")", t.frame(0, what), NONE);
        }
    }

    // "IllegalArgumentException when the table is malformed."
    static void malformedBeforeAllElse() {
        FrameTyper t = bareWithTable(1, 200);
        int[] far = {Integer.MIN_VALUE, -1, 0, 1, 10, 11, Integer.MAX_VALUE};
        for (int i : far) {
            for (int what : far) {
                Due.is("frame(" + i + ", " + what + ")", Due.throwsOnFrame(t, i, what), true);
            }
        }
    }

    static void malformedBehindTheFrameAskedFor() {
        FrameTyper t = bareWithTable(2, 5, 200);
        Due.is("frame(0, 0)", Due.throwsOnFrame(t, 0, 0), true);
        Due.tableIs("the bytes stay", t, 2, 5, 200);
    }

    static void anEmptyTableIsMalformed() {
        Due.is("frame(0, 0)", Due.throwsOnFrame(bareWithTable(), 0, 0), true);
    }
}
