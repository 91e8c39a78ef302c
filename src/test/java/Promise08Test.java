/** Promise 8, table: its sentences and their boundary cases, a test for each. */
public final class Promise08Test {
    private static final int NONE = FrameTyper.NONE;
    private static final int[] WRONG_COUNTS = {
        -1, 9, -8, 16, 256, 256 + 1, 65536 + 8, Integer.MAX_VALUE, Integer.MIN_VALUE};

    public static void main(String[] args) {
        Due.endAll(Promise08Test.class);
    }

    private static FrameTyper withTable(int size) {
        FrameTyper t = new FrameTyper();
        Due.table(t, Due.times(size, 7));
        return t;
    }

    // "Appends n bytes to the table likewise ..."
    static void oneByteIsTaken() {
        FrameTyper t = new FrameTyper();
        Due.is("table(77, 1)", t.table(77, 1), 2);
        Due.tableIs("then", t, 0, 77);
    }

    static void eightBytesAreTaken() {
        FrameTyper t = new FrameTyper();
        Due.is("table", t.table(0x0102030405060708L, 8), 9);
        Due.tableIs("then", t, 0, 1, 2, 3, 4, 5, 6, 7, 8);
    }

    static void theLowestBytesTheHighestFirst() {
        for (int n = 1; n <= 8; n++) {
            FrameTyper t = withTable(0);
            Due.is("table of " + n, t.table(0xF1F2F3F4F5F6F7F8L, n), n);
            for (int k = 0; k < n; k++) {
                Due.is("byte " + k + " of " + n, t.tableAt(k), 0xF1 + 8 - n + k);
            }
            Due.is("and no more", t.tableAt(n), NONE);
        }
    }

    static void itStandsBehindWhatWasMade() {
        FrameTyper t = new FrameTyper();
        Due.makes("one frame", t, Due.row(11, 0), 1, 0);
        Due.is("table(9, 1)", t.table(9, 1), 3);
        Due.tableIs("then", t, 1, 0, 9);
    }

    static void nineBytesAreRefused() {
        Due.is("table(0, 9)", new FrameTyper().table(0, 9), NONE);
    }

    static void fewerThanNoneAreRefused() {
        Due.is("table(0, -1)", new FrameTyper().table(0, -1), NONE);
    }

    static void farCountsAreRefused() {
        for (int n : WRONG_COUNTS) {
            Due.is("table(0, " + n + ")", new FrameTyper().table(0, n), NONE);
            Due.is("table(0, " + n + ") of a full one", withTable(120).table(0, n), NONE);
            Due.is("table(0, " + n + ") of an empty one", withTable(0).table(0, n), NONE);
        }
    }

    static void refusedCountChangesNothing() {
        for (int n : WRONG_COUNTS) {
            FrameTyper t = withTable(3);
            t.table(0, n);
            Due.tableIs("after table(0, " + n + ")", t, 7, 7, 7);
        }
    }

    // "... of which it may have 120."
    static void oneHundredAndTwentyAreTaken() {
        for (int n = 1; n <= 8; n++) {
            FrameTyper t = withTable(120 - n);
            Due.is("120 by " + n, t.table(0x88, n), 120);
            Due.is("the last byte", t.tableAt(119), 0x88);
        }
    }

    static void oneHundredAndTwentyOneAreRefused() {
        for (int n = 1; n <= 8; n++) {
            Due.is("121 by " + n, withTable(121 - n).table(0, n), NONE);
        }
    }

    static void nothingGoesIntoAFullTable() {
        FrameTyper t = withTable(120);
        for (int n = 1; n <= 8; n++) {
            Due.is("table(0, " + n + ")", t.table(0, n), NONE);
        }
        Due.tableIs("full", t, Due.times(120, 7));
    }

    static void whatIsTooMuchChangesNothing() {
        FrameTyper t = withTable(117);
        Due.is("121 by 4", t.table(0, 4), NONE);
        Due.tableIs("nothing of it is there", t, Due.times(117, 7));
        Due.is("120 by 3", t.table(0, 3), 120);
    }

    // "With n 0: the table is empty then, 0."
    static void noBytesEmptyTheFirstTable() {
        FrameTyper t = new FrameTyper();
        Due.is("table(0, 0)", t.table(0, 0), 0);
        Due.tableIs("then", t);
    }

    static void noBytesEmptyAFullTable() {
        FrameTyper t = withTable(120);
        Due.is("table(0, 0)", t.table(0, 0), 0);
        Due.tableIs("then", t);
        Due.is("it takes bytes again", t.table(5, 1), 1);
    }

    static void noBytesLeaveAnEmptyTable() {
        FrameTyper t = withTable(0);
        Due.is("table(0, 0)", t.table(0, 0), 0);
        Due.tableIs("then", t);
    }

    static void withNoBytesTheBytesDoNotMatter() {
        FrameTyper t = withTable(5);
        Due.is("table(-1, 0)", t.table(-1L, 0), 0);
        Due.tableIs("then", t);
        Due.is("table(MIN, 0)", t.table(Long.MIN_VALUE, 0), 0);
        Due.tableIs("still", t);
    }

    static void theCodeStays() {
        FrameTyper t = new FrameTyper();
        Due.code(t, 0, 19);
        t.table(0, 0);
        t.table(0, 8);
        t.table(0, 9);
        Due.is("clear()", t.clear(), 2);
    }
}
