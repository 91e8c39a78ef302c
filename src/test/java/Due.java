/** Counts answers that are not as due, and ends a test by them. */
final class Due {
    private static int wrong;
    private static int asked;

    private Due() {
    }

    static void is(String what, long got, long want) {
        asked++;
        if (got != want) {
            wrong++;
            System.out.println(what + " answered " + got + ", due is " + want);
        }
    }

    static void is(String what, boolean got, boolean want) {
        is(what, got ? 1 : 0, want ? 1 : 0);
    }

    static void malformed(String what, FrameTyper typer, boolean want) {
        is(what + ": frames() throws", throwsOnFrames(typer), want);
        is(what + ": frame(0, 0) throws", throwsOnFrame(typer, 0, 0), want);
        is(what + ": frame(-1, 99) throws", throwsOnFrame(typer, -1, 99), want);
        is(what + ": check() throws", throwsOnCheck(typer), want);
    }

    private static boolean throwsOnFrames(FrameTyper typer) {
        try {
            typer.frames();
            return false;
        } catch (IllegalArgumentException e) {
            return true;
        }
    }

    private static boolean throwsOnFrame(FrameTyper typer, int i, int what) {
        try {
            typer.frame(i, what);
            return false;
        } catch (IllegalArgumentException e) {
            return true;
        }
    }

    private static boolean throwsOnCheck(FrameTyper typer) {
        try {
            typer.check();
            return false;
        } catch (IllegalArgumentException e) {
            return true;
        }
    }

    /** Puts these bytes in the place of the code. */
    static void code(FrameTyper typer, int... bytes) {
        typer.clear();
        for (int i = 0; i < bytes.length; i++) {
            is("code of byte " + i, typer.code(bytes[i], 1), i + 1);
        }
    }

    /** Puts these bytes in the place of the table. */
    static void table(FrameTyper typer, int... bytes) {
        typer.table(0, 0);
        for (int i = 0; i < bytes.length; i++) {
            is("table of byte " + i, typer.table(bytes[i], 1), i + 1);
        }
    }

    static void tableIs(String what, FrameTyper typer, int... bytes) {
        for (int i = 0; i < bytes.length; i++) {
            is(what + ": tableAt(" + i + ")", typer.tableAt(i), bytes[i]);
        }
        is(what + ": tableAt behind the last", typer.tableAt(bytes.length), FrameTyper.NONE);
    }

    static void end(String test) {
        System.out.println(test + ": " + asked + " answers, " + wrong + " not as due");
        if (wrong != 0 || asked == 0) {
            System.exit(1);
        }
    }
}
