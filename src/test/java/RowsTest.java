/** Promises 6 to 9: code, clear, table, tableAt. */
public final class RowsTest {
    private static final int NONE = FrameTyper.NONE;

    public static void main(String[] args) {
        code();
        codeAtEdges();
        clear();
        table();
        tableAtEdges();
        Due.end("RowsTest");
    }

    private static void code() {
        FrameTyper t = new FrameTyper();
        Due.is("6: two bytes, the highest first", t.code(0x0104, 2), 2);
        Due.is("6: two more", t.code(0x7777_0002L, 2), 4);
        Due.is("6: the lowest alone", t.code(0x1313_1313_1313_1313L, 1), 5);
        t.method(1, NONE, NONE, NONE, 0);
        Due.is("6: 1 4, 0, 2, 19", t.check(), 0);
        t.clear();
        Due.is("6: eight", t.code(0x0104_0103_0707_0813L, 8), 8);
        Due.is("6: one byte of many", t.check(), 505);
        t.clear();
        Due.is("6: bytes above 127", t.code(-1L, 8), 8);
        Due.is("6: 255 is no number", t.check(), 100);
    }

    private static void codeAtEdges() {
        FrameTyper t = new FrameTyper();
        for (int n : new int[] {0, -1, 9, 256, Integer.MAX_VALUE, Integer.MIN_VALUE}) {
            Due.is("6: n " + n, t.code(0, n), NONE);
        }
        for (int k = 1; k <= 5; k++) {
            Due.is("6: up to 40", t.code(0, 8), 8 * k);
        }
        Due.is("6: 43", t.code(0, 3), 43);
        Due.is("6: 49 would be too many", t.code(0, 6), NONE);
        Due.is("6: nothing was done, 48", t.code(19, 5), 48);
        Due.is("6: one more", t.code(0, 1), NONE);
        Due.is("6: 48 bytes hold", t.check(), 0);
    }

    private static void clear() {
        FrameTyper t = new FrameTyper();
        t.code(0, 7);
        Due.is("7: clear", t.clear(), 7);
        Due.is("7: clear again", t.clear(), 0);
        Due.is("7: code from the beginning", t.code(19, 1), 1);
        Due.is("7: check", t.check(), 0);
        Due.tableIs("7: the table stays", t, 0);
    }

    private static void table() {
        FrameTyper t = new FrameTyper();
        Due.is("8: behind what a new object has", t.table(0x01FE, 2), 3);
        Due.tableIs("8: appended", t, 0, 1, 254);
        Due.is("8: emptied", t.table(12345, 0), 0);
        Due.tableIs("8: empty", t);
        Due.is("8: eight, the highest first", t.table(0x8001_0203_0405_06FFL, 8), 8);
        Due.tableIs("8: eight", t, 128, 1, 2, 3, 4, 5, 6, 255);
        Due.is("9: below 0", t.tableAt(-1), NONE);
        Due.is("9: far", t.tableAt(Integer.MAX_VALUE), NONE);
        Due.is("9: far below", t.tableAt(Integer.MIN_VALUE), NONE);
    }

    private static void tableAtEdges() {
        FrameTyper t = new FrameTyper();
        for (int n : new int[] {-1, 9, 256, Integer.MAX_VALUE, Integer.MIN_VALUE}) {
            Due.is("8: n " + n, t.table(0, n), NONE);
        }
        Due.tableIs("8: nothing was done", t, 0);
        t.table(0, 0);
        for (int k = 1; k <= 14; k++) {
            Due.is("8: up to 112", t.table(0, 8), 8 * k);
        }
        Due.is("8: 117", t.table(0x0102030405L, 5), 117);
        Due.is("8: 121 would be too many", t.table(0, 4), NONE);
        Due.is("8: 120", t.table(0x060708, 3), 120);
        Due.is("8: one more", t.table(0, 1), NONE);
        Due.is("9: the last byte", t.tableAt(119), 8);
        Due.is("9: none behind it", t.tableAt(120), NONE);
        Due.is("8: emptied when full", t.table(0, 0), 0);
        Due.is("9: none then", t.tableAt(0), NONE);
    }
}
