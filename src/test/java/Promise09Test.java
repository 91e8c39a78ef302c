/** Promise 9, tableAt: its sentences and their boundary cases, a test for each. */
public final class Promise09Test {
    private static final int NONE = FrameTyper.NONE;

    public static void main(String[] args) {
        Due.endAll(Promise09Test.class);
    }

    // "Byte i of the table ..."
    static void theFirstByte() {
        FrameTyper t = new FrameTyper();
        Due.table(t, 9, 8, 7);
        Due.is("tableAt(0)", t.tableAt(0), 9);
    }

    static void theLastByte() {
        FrameTyper t = new FrameTyper();
        Due.table(t, 9, 8, 7);
        Due.is("tableAt(2)", t.tableAt(2), 7);
    }

    static void theLastByteOfAFullTable() {
        FrameTyper t = new FrameTyper();
        Due.table(t, Due.join(Due.times(119, 1), Due.row(2)));
        Due.is("tableAt(118)", t.tableAt(118), 1);
        Due.is("tableAt(119)", t.tableAt(119), 2);
        Due.is("tableAt(120)", t.tableAt(120), NONE);
    }

    static void everyValueOfAByte() {
        for (int from = 0; from < 256; from += 64) {
            FrameTyper t = new FrameTyper();
            t.table(0, 0);
            for (int k = 0; k < 64; k++) {
                t.table(from + k, 1);
            }
            for (int k = 0; k < 64; k++) {
                Due.is("tableAt(" + k + ")", t.tableAt(k), from + k);
            }
        }
    }

    static void bytesAreNotSigned() {
        FrameTyper t = new FrameTyper();
        Due.table(t, 127, 128, 255);
        Due.tableIs("then", t, 127, 128, 255);
    }

    // "... NONE when there is none."
    static void behindTheLastByte() {
        for (int size = 0; size <= 120; size += 8) {
            FrameTyper t = new FrameTyper();
            Due.table(t, Due.times(size, 5));
            Due.is("tableAt(" + size + ")", t.tableAt(size), NONE);
            Due.is("tableAt(" + (size + 1) + ")", t.tableAt(size + 1), NONE);
        }
    }

    static void beforeTheFirstByte() {
        FrameTyper t = new FrameTyper();
        Due.is("tableAt(-1)", t.tableAt(-1), NONE);
        Due.is("tableAt(-2)", t.tableAt(-2), NONE);
    }

    static void farAway() {
        FrameTyper t = new FrameTyper();
        Due.table(t, Due.times(120, 5));
        for (int i : new int[] {121, 256, 65536, Integer.MAX_VALUE, Integer.MIN_VALUE, -120}) {
            Due.is("tableAt(" + i + ")", t.tableAt(i), NONE);
        }
    }

    static void anEmptyTable() {
        FrameTyper t = new FrameTyper();
        t.table(0, 0);
        Due.is("tableAt(0)", t.tableAt(0), NONE);
        Due.is("tableAt(-1)", t.tableAt(-1), NONE);
    }

    static void bytesOfAnEmptiedTableAreGone() {
        FrameTyper t = new FrameTyper();
        Due.table(t, Due.times(120, 5));
        t.table(0, 0);
        t.table(6, 1);
        Due.is("tableAt(0)", t.tableAt(0), 6);
        for (int i = 1; i <= 120; i++) {
            Due.is("tableAt(" + i + ")", t.tableAt(i), NONE);
        }
    }

    static void bytesOfALongerTableAreGoneOnceOneIsMade() {
        FrameTyper t = new FrameTyper();
        Due.table(t, Due.times(120, 5));
        Due.code(t, 11, 0);
        Due.is("make()", t.make(), 2);
        Due.is("tableAt(1)", t.tableAt(1), 0);
        for (int i = 2; i <= 120; i++) {
            Due.is("tableAt(" + i + ")", t.tableAt(i), NONE);
        }
    }

    static void theTableMayBeMalformed() {
        FrameTyper t = new FrameTyper();
        Due.table(t, 1, 200);
        Due.malformed("tag 200", t, true);
        Due.tableIs("it is still there", t, 1, 200);
    }
}
