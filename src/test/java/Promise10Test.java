import java.util.Arrays;

/** Promise 10, frames, and when the table is malformed: a test for each case. */
public final class Promise10Test {
    private static final int NONE = FrameTyper.NONE;

    public static void main(String[] args) {
        Due.endAll(Promise10Test.class);
    }

    /** One whose method takes so many INTs. */
    private static FrameTyper taking(int n) {
        int[] types = {NONE, NONE, NONE, NONE};
        Arrays.fill(types, 0, n, 1);
        return Due.typer(types[0], types[1], types[2], types[3], 0);
    }

    private static void isFine(int frames, int... table) {
        isFine(taking(2), frames, table);
    }

    private static void isFine(FrameTyper t, int frames, int... table) {
        Due.table(t, table);
        String what = Arrays.toString(table);
        Due.malformed(what, t, false);
        Due.is(what + ": frames()", t.frames(), frames);
    }

    private static void isMalformed(int... table) {
        isMalformed(taking(2), table);
    }

    private static void isMalformed(FrameTyper t, int... table) {
        Due.table(t, table);
        Due.malformed(Arrays.toString(table), t, true);
    }

    /** Fine, but each row that ends earlier or has a byte more is malformed. */
    private static void endsRight(int frames, int... table) {
        isFine(frames, table);
        for (int n = 0; n < table.length; n++) {
            isMalformed(Arrays.copyOf(table, n));
        }
        isMalformed(Arrays.copyOf(table, table.length + 1));
    }

    // "How many frames the table has."
    static void noFrame() {
        isFine(0, 0);
    }

    static void oneFrame() {
        isFine(1, 1, 0);
    }

    static void aFrameAtEachPlace() {
        isFine(48, Due.join(Due.row(48), Due.times(48, 0)));
    }

    static void oneFrameMoreThanPlaces() {
        isMalformed(Due.join(Due.row(49), Due.times(49, 0)));
    }

    static void moreFramesToldThanThereAre() {
        isMalformed(2, 0);
        isMalformed(255, 0);
        isMalformed(Due.join(Due.row(48), Due.times(47, 0)));
    }

    static void fewerFramesToldThanThereAre() {
        isMalformed(1, 0, 0);
        isMalformed(0, 0);
        isMalformed(Due.join(Due.row(47), Due.times(48, 0)));
    }

    static void aFullTable() {
        int[] frame = {255, 0, 4, 7, 0, 7, 1, 7, 2, 7, 3, 5, 7, 4, 7, 5, 7, 6, 7, 7, 7, 0};
        int[] five = Due.join(frame, frame, frame, frame, frame);
        int[] full = Due.join(Due.row(14), five, Due.times(9, 0));
        Due.is("its bytes", full.length, 120);
        isFine(14, full);
    }

    // "It is MALFORMED if it ends too early or too late ..."
    static void theEmptyTable() {
        isMalformed();
    }

    static void endOfTags0To63() {
        endsRight(1, 1, 0);
    }

    static void endOfTags64To127() {
        endsRight(1, 1, 64, 1);
        endsRight(1, 1, 64, 7, 0);
        endsRight(1, 1, 64, 8, 0);
    }

    static void endOfTag247() {
        endsRight(1, 1, 247, 0, 1);
        endsRight(1, 1, 247, 0, 7, 7);
        endsRight(1, 1, 247, 0, 8, 47);
    }

    static void endOfTags248To250() {
        endsRight(1, 1, 249, 0);
        endsRight(1, 1, 250, 0);
    }

    static void endOfTag251() {
        endsRight(1, 1, 251, 0);
    }

    static void endOfTags252To254() {
        endsRight(1, 1, 252, 0, 1);
        endsRight(1, 1, 253, 0, 1, 1);
        endsRight(2, 2, 250, 0, 254, 0, 7, 1, 1, 8, 1);
    }

    static void endOfTag255() {
        endsRight(1, 1, 255, 0, 0, 0);
        endsRight(1, 1, 255, 0, 1, 1, 1, 1);
        endsRight(1, 1, 255, 0, 2, 7, 1, 0, 2, 8, 1, 2);
    }

    static void endOfSeveralFrames() {
        endsRight(4, 4, 3, 70, 2, 250, 0, 252, 0, 7, 3);
    }

    // "... has a tag 128 .. 246 ..."
    static void tag127IsNoSuchTag() {
        // It is one of 64 .. 127, but its DELTA of 63 is too far for any frame.
        isMalformed(1, 127, 1);
        isFine(1, 1, 64, 1);
    }

    static void tag128IsRefused() {
        isMalformed(1, 128);
        isMalformed(1, 128, 1);
        isMalformed(1, 128, 0, 1);
    }

    static void tag246IsRefused() {
        isMalformed(1, 246);
        isMalformed(1, 246, 1);
        isMalformed(1, 246, 0, 1);
    }

    static void tag247IsTaken() {
        isFine(1, 1, 247, 0, 1);
    }

    static void everyTagBetweenIsRefused() {
        for (int tag = 128; tag <= 246; tag++) {
            FrameTyper t = taking(2);
            isMalformed(t, 1, tag);
            isMalformed(t, 1, tag, 0);
            isMalformed(t, 1, tag, 0, 0);
            isMalformed(t, 1, tag, 0, 0, 0);
        }
    }

    static void aWrongTagBehindRightOnes() {
        isMalformed(2, 0, 128);
        isMalformed(2, 0, 246, 0, 0);
    }

    // "... or another type's number ..."
    static void typesUpTo2AreTaken() {
        for (int type = 0; type <= 2; type++) {
            isFine(1, 1, 64, type);
            isFine(1, 1, 247, 0, type);
            isFine(1, 1, 252, 0, type);
            isFine(1, 1, 255, 0, 1, type, 1, type);
        }
    }

    static void types3To6AreRefused() {
        for (int type = 3; type <= 6; type++) {
            isMalformedType(type);
        }
    }

    static void typesFrom9OnAreRefused() {
        for (int type = 9; type <= 255; type++) {
            isMalformedType(type);
        }
    }

    /** With and without a byte behind it, wherever a type can stand. */
    private static void isMalformedType(int type) {
        FrameTyper t = taking(2);
        isMalformed(t, 1, 64, type);
        isMalformed(t, 1, 64, type, 0);
        isMalformed(t, 1, 247, 0, type, 0);
        isMalformed(t, 1, 252, 0, type, 0);
        isMalformed(t, 1, 253, 0, 1, type);
        isMalformed(t, 1, 255, 0, 1, type, 0, 0);
        isMalformed(t, 1, 255, 0, 1, type, 0);
        isMalformed(t, 1, 255, 0, 0, 1, type);
        isMalformed(t, 1, 255, 0, 0, 1, type, 0);
    }

    // "7 and a class 0 .. 7"
    static void classes0And7AreTaken() {
        isFine(1, 1, 64, 7, 0);
        isFine(1, 1, 64, 7, 7);
        isFine(1, 1, 252, 0, 7, 7);
        isFine(1, 1, 255, 0, 1, 7, 7, 1, 7, 7);
    }

    static void classesFrom8OnAreRefused() {
        for (int c = 8; c <= 255; c++) {
            FrameTyper t = taking(2);
            isMalformed(t, 1, 64, 7, c);
            isMalformed(t, 1, 252, 0, 7, c);
            isMalformed(t, 1, 255, 0, 1, 7, c, 0);
            isMalformed(t, 1, 255, 0, 0, 1, 7, c);
        }
    }

    // "8 and a place 0 .. 47"
    static void newAtPlaces0And47IsTaken() {
        isFine(1, 1, 64, 8, 0);
        isFine(1, 1, 64, 8, 47);
        isFine(1, 1, 252, 0, 8, 47);
        isFine(1, 1, 255, 0, 1, 8, 47, 1, 8, 47);
    }

    static void newAtPlacesFrom48OnIsRefused() {
        for (int place = 48; place <= 255; place++) {
            FrameTyper t = taking(2);
            isMalformed(t, 1, 64, 8, place);
            isMalformed(t, 1, 252, 0, 8, place);
            isMalformed(t, 1, 255, 0, 1, 8, place, 0);
            isMalformed(t, 1, 255, 0, 0, 1, 8, place);
        }
    }

    // "... too many or too few locals ..."
    static void tooFewLocals() {
        for (int had = 0; had <= 4; had++) {
            for (int less = 1; less <= 3; less++) {
                if (less <= had) {
                    isFine(taking(had), 1, 1, 251 - less, 0);
                } else {
                    isMalformed(taking(had), 1, 251 - less, 0);
                }
            }
        }
    }

    static void tooManyLocals() {
        for (int had = 0; had <= 4; had++) {
            for (int more = 1; more <= 3; more++) {
                int[] table = Due.join(Due.row(1, 251 + more, 0), Due.times(more, 1));
                if (had + more <= 4) {
                    isFine(taking(had), 1, table);
                } else {
                    isMalformed(taking(had), table);
                }
            }
        }
    }

    static void tooFewLocalsOfAFrameBefore() {
        isFine(taking(4), 2, 2, 255, 0, 1, 1, 0, 250, 0);
        isMalformed(taking(4), 2, 255, 0, 1, 1, 0, 249, 0);
        isMalformed(taking(4), 2, 248, 0, 249, 0);
    }

    static void tooManyLocalsOfAFrameBefore() {
        isFine(taking(0), 2, 2, 255, 0, 3, 1, 1, 1, 0, 252, 0, 1);
        isMalformed(taking(0), 2, 255, 0, 3, 1, 1, 1, 0, 253, 0, 1, 1);
        isMalformed(taking(0), 2, 254, 0, 1, 1, 1, 253, 0, 1, 1);
    }

    static void topIsALocalTooThat248To254Count() {
        isFine(taking(0), 2, 2, 254, 0, 0, 0, 0, 248, 0);
        isMalformed(taking(0), 2, 254, 0, 0, 0, 0, 253, 0, 1, 1);
    }

    static void tag255TellsAtMostFourLocals() {
        for (int n = 0; n <= 4; n++) {
            isFine(1, Due.join(Due.row(1, 255, 0, n), Due.times(n, 1), Due.row(0)));
        }
        isMalformed(Due.join(Due.row(1, 255, 0, 5), Due.times(5, 1), Due.row(0)));
        isMalformed(Due.join(Due.row(1, 255, 0, 100), Due.times(100, 1), Due.row(0)));
        isMalformed(1, 255, 0, 255, 0);
    }

    static void tag255DoesNotCountTheLocalsBefore() {
        isFine(taking(4), 1, 1, 255, 0, 4, 1, 1, 1, 1, 0);
        isFine(taking(0), 1, 1, 255, 0, 4, 1, 1, 1, 1, 0);
    }

    // "... too many on the stack ..."
    static void atMostFiveOnTheStack() {
        for (int n = 0; n <= 5; n++) {
            isFine(1, Due.join(Due.row(1, 255, 0, 0, n), Due.times(n, 1)));
        }
        isMalformed(Due.join(Due.row(1, 255, 0, 0, 6), Due.times(6, 1)));
        isMalformed(Due.join(Due.row(1, 255, 0, 0, 100), Due.times(100, 1)));
        isMalformed(1, 255, 0, 0, 255);
    }

    // "... or a place of a frame above 47."
    static void thePlaceOfTheFirstFrameByItsTag() {
        isFine(1, 1, 47);
        isMalformed(1, 48);
        isMalformed(1, 63);
        isFine(1, 1, 64 + 47, 1);
        isMalformed(1, 64 + 48, 1);
        isMalformed(1, 127, 1);
    }

    static void thePlaceOfTheFirstFrameByAByte() {
        for (int tag = 247; tag <= 255; tag++) {
            FrameTyper t = taking(tag < 251 ? 3 : 0);
            isFine(t, 1, frame(tag, 47));
            isMalformed(t, frame(tag, 48));
            isMalformed(t, frame(tag, 127));
            isMalformed(t, frame(tag, 128));
            isMalformed(t, frame(tag, 255));
        }
    }

    /** A table of one frame with a DELTA of its own. */
    private static int[] frame(int tag, int delta) {
        int types = tag == 247 ? 1 : tag == 255 ? 2 : Math.max(0, tag - 251);
        return Due.join(Due.row(1, tag, delta), Due.times(types, 0));
    }

    static void thePlaceOfLaterFrames() {
        isFine(2, 2, 46, 0);
        isMalformed(2, 46, 1);
        isMalformed(2, 47, 0);
        isFine(2, 2, 0, 46);
        isMalformed(2, 0, 47);
        isFine(3, 3, 0, 0, 45);
        isMalformed(3, 0, 0, 46);
        isFine(2, 2, 46, 64, 1);
        isMalformed(2, 47, 64, 1);
    }

    static void aDeltaNeverGoesRound() {
        isMalformed(2, 0, 251, 255);
        isMalformed(2, 1, 251, 254);
        isMalformed(2, 5, 251, 251);
        isMalformed(2, 0, 247, 255, 1);
    }

    // "IllegalArgumentException when it is malformed."
    static void nothingChangesWhenItThrows() {
        FrameTyper t = taking(1);
        Due.table(t, 2, 3);
        Due.malformed("a frame is missing", t, true);
        Due.tableIs("the bytes stay", t, 2, 3);
        Due.is("one more", t.table(0, 1), 3);
        Due.is("frames() then", t.frames(), 2);
    }

    static void theCodeDoesNotMatter() {
        FrameTyper t = new FrameTyper();
        Due.table(t, 1, 47);
        Due.is("without code", t.frames(), 1);
        Due.code(t, 22);
        Due.is("with wrong code", t.frames(), 1);
        Due.tableIs("the bytes stay", t, 1, 47);
    }

    static void whatTheMethodTakesMatters() {
        FrameTyper t = taking(1);
        Due.table(t, 1, 249, 0);
        Due.malformed("two less of one", t, true);
        t.method(1, 1, NONE, NONE, 0);
        Due.malformed("two less of two", t, false);
        t.method(NONE, NONE, NONE, NONE, 0);
        Due.malformed("two less of none", t, true);
    }
}
