/** Promise 6, code: its sentences and their boundary cases, a test for each. */
public final class Promise06Test {
    private static final int NONE = FrameTyper.NONE;
    private static final int[] WRONG_COUNTS = {
        0, -1, 9, -8, 16, 256, 256 + 1, 65536 + 8, Integer.MAX_VALUE, Integer.MIN_VALUE};

    public static void main(String[] args) {
        Due.endAll(Promise06Test.class);
    }

    /** Code of so many bytes, all 0 (nothing is done there). */
    private static FrameTyper withCode(int size) {
        FrameTyper t = new FrameTyper();
        Due.code(t, Due.times(size, 0));
        return t;
    }

    // "Appends n bytes to the code ...: how many it has."
    static void oneByteIsTaken() {
        Due.is("code(19, 1)", new FrameTyper().code(19, 1), 1);
        Due.is("behind 47", withCode(47).code(19, 1), 48);
    }

    static void eightBytesAreTaken() {
        Due.is("code(0, 8)", new FrameTyper().code(0, 8), 8);
        Due.is("behind 40", withCode(40).code(0, 8), 48);
    }

    static void everyCountIsTaken() {
        FrameTyper t = new FrameTyper();
        int size = 0;
        for (int n = 1; n <= 8; n++) {
            size += n;
            Due.is("code(0, " + n + ")", t.code(0, n), size);
        }
    }

    // "... the lowest n bytes of bytes ..."
    static void higherBytesAreLeftOut() {
        for (int n = 1; n <= 7; n++) {
            FrameTyper t = new FrameTyper();
            Due.is("code", t.code(-1L << 8 * n, n), n);
            Due.is("all are 0, and something comes behind them", t.check(), 100 + n);
        }
    }

    // "... the highest of them first ..."
    static void theHighestComesFirst() {
        for (int n = 1; n <= 8; n++) {
            for (int k = 0; k < n; k++) {
                FrameTyper t = new FrameTyper();
                t.code(22L << 8 * (n - 1 - k), n);
                Due.is("22 as byte " + k + " of " + n, t.check(), 100 + k);
            }
        }
    }

    static void theyStandBehindWhatWasThere() {
        FrameTyper t = new FrameTyper();
        t.code(0x0000, 2);
        t.code(0x0016, 2);
        t.code(0x1600, 2);
        Due.is("22 at place 3", t.check(), 103);
    }

    static void bytesAreNotSigned() {
        FrameTyper t = new FrameTyper();
        Due.is("eight of 255", t.code(-1L, 8), 8);
        Due.is("255 is no number", t.check(), 100);
        t.clear();
        Due.is("128 and 19", t.code(Long.MIN_VALUE | 19, 8), 8);
        Due.is("128 is no number", t.check(), 100);
    }

    // "NONE when n is not 1 .. 8 ..."
    static void noByteIsRefused() {
        Due.is("code(19, 0)", new FrameTyper().code(19, 0), NONE);
    }

    static void nineBytesAreRefused() {
        Due.is("code(19, 9)", new FrameTyper().code(19, 9), NONE);
    }

    static void fewerThanNoneAreRefused() {
        Due.is("code(19, -1)", new FrameTyper().code(19, -1), NONE);
        Due.is("code(19, -1) behind 8", withCode(8).code(19, -1), NONE);
    }

    static void farCountsAreRefused() {
        for (int n : WRONG_COUNTS) {
            Due.is("code(19, " + n + ")", new FrameTyper().code(19, n), NONE);
            Due.is("code(19, " + n + ") behind 48", withCode(48).code(19, n), NONE);
        }
    }

    static void refusedCountChangesNothing() {
        for (int n : WRONG_COUNTS) {
            FrameTyper t = withCode(3);
            t.code(22, n);
            Due.is("check() after code(22, " + n + ")", t.check(), 103);
            Due.is("clear() after code(22, " + n + ")", t.clear(), 3);
        }
    }

    // "... or there would be more than 48."
    static void fortyEightAreTaken() {
        for (int n = 1; n <= 8; n++) {
            Due.is("48 by " + n, withCode(48 - n).code(0, n), 48);
        }
    }

    static void fortyNineAreRefused() {
        for (int n = 1; n <= 8; n++) {
            Due.is("49 by " + n, withCode(49 - n).code(0, n), NONE);
        }
    }

    static void nothingGoesIntoFullCode() {
        FrameTyper t = withCode(48);
        for (int n = 1; n <= 8; n++) {
            Due.is("code(0, " + n + ")", t.code(0, n), NONE);
        }
        Due.is("clear()", t.clear(), 48);
    }

    static void whatIsTooMuchChangesNothing() {
        FrameTyper t = withCode(45);
        Due.is("49 by 4", t.code(0x16161616L, 4), NONE);
        Due.is("nothing of it is there", t.check(), 145);
        Due.is("48 by 3", t.code(0x000013, 3), 48);
        Due.is("and then it is right", t.check(), 0);
    }

    static void theTableStays() {
        FrameTyper t = new FrameTyper();
        Due.table(t, 1, 5);
        t.code(0x0013, 2);
        t.code(0x13, 9);
        Due.tableIs("then", t, 1, 5);
    }
}
