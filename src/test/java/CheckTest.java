/** Promise 12: check, each instruction and each fault. */
public final class CheckTest {
    private static final int NONE = FrameTyper.NONE;

    public static void main(String[] args) {
        rightCode();
        notWhole();
        nothingCame();
        frameMisfit();
        noSuchThing();
        newsOfFrames();
        missing();
        misfits();
        locals();
        news();
        tooHigh();
        going();
        strayFrames();
        orderOfFaults();
        fitting();
        stateStays();
        Due.end("CheckTest");
    }

    private static void rightCode() {
        FrameTyper t = Due.typer(1, 16, NONE, NONE, 1);
        Due.checks("add", t, 0, 3, 0, 1, 9, 7, 19);
        Due.checks("nothing, null, drop", t, 0, 0, 2, 8, 3, 0, 19);
        Due.checks("twice", t, 0, 3, 0, 9, 7, 19);
        Due.checks("the other way round", t, 0, 3, 0, 2, 10, 19);
        Due.checks("stores and loads", t, 0, 3, 0, 4, 3, 5, 1, 6, 2, 5, 2, 8, 3, 3, 19);
        Due.checks("a new one, twice told, made", t, 0, 14, 2, 9, 6, 2, 15, 5, 2, 20, 7, 8, 3, 0, 19);
        Due.checks("21 with an object", t, 0, 5, 1, 21);
        Due.checks("21 with NULL", t, 0, 2, 21);
        Due.checks("19 leaves what is below", t, 0, 2, 2, 3, 0, 19);
    }

    private static void notWhole() {
        FrameTyper t = Due.typer(NONE, NONE, NONE, NONE, 0);
        Due.checks("22", t, 100, 22);
        Due.checks("255 behind others", t, 101, 0, 255);
        for (int number : new int[] {1, 3, 4, 5, 6, 11, 12, 13, 14, 16, 17, 18, 20}) {
            Due.checks(number + " without x", t, 101, 0, number);
        }
        Due.checks("something comes behind the last byte", t, 102, 0, 0);
        Due.checks("behind the last byte with x", t, 102, 1, 0);
        Due.checks("nothing comes behind 19", t, 0, 0, 19);
        int[] full = new int[48];
        Due.checks("behind 48 bytes", t, 148, full);
        Due.table(t, 1, 2);
        Due.checks("a frame behind the last byte, and something comes", t, 102, 0, 0);
        Due.checks("not whole before nothing came", t, 101, 19, 22);
        Due.checks("empty code", t, 100);
        Due.table(t, 1, 64, 1);
        Due.checks("empty code with a frame that does not fit", t, 100);
        Due.checks("not whole before a misfit", t, 100, 22);
    }

    private static void nothingCame() {
        FrameTyper t = Due.typer(NONE, NONE, NONE, NONE, 0);
        Due.checks("behind 19", t, 201, 19, 0);
        Due.checks("behind 21", t, 202, 2, 21, 19);
        Due.table(t, 1, 0);
        Due.checks("behind 11", t, 202, 11, 0, 19);
        Due.table(t, 1, 1);
        Due.checks("a frame helps", t, 0, 19, 19);
        Due.checks("and from there something comes", t, 102, 19, 0);
    }

    private static void frameMisfit() {
        FrameTyper t = Due.typer(1, 17, NONE, NONE, 0);
        Due.table(t, 1, 0);
        Due.checks("at place 0 as the method takes", t, 0, 19);
        Due.table(t, 1, 64, 1);
        Due.checks("at place 0 with a stack", t, 300, 19);
        Due.table(t, 1, 252, 0, 1);
        Due.checks("local 2 is TOP, not INT", t, 300, 19);
        Due.table(t, 1, 255, 0, 2, 1, 7, 0, 0);
        Due.checks("class 1 is below 0", t, 0, 19);
        Due.table(t, 1, 255, 0, 2, 1, 7, 2, 0);
        Due.checks("class 1 is not below 2", t, 300, 19);
        Due.table(t, 1, 255, 0, 2, 1, 2, 0);
        Due.checks("an object does not fit NULL", t, 300, 19);
        Due.table(t, 1, 249, 1);
        Due.checks("then it is as the frame says", t, 601, 0, 3, 0, 19);
        Due.table(t, 1, 2);
        Due.checks("a stack where the frame has none", t, 302, 1, 0, 19);
        Due.table(t, 1, 66, 0);
        Due.checks("INT fits TOP on the stack", t, 0, 1, 0, 8, 19);
        Due.table(t, 1, 255, 4, 0, 2, 1, 2);
        Due.checks("the order on the stack", t, 0, 1, 0, 0, 2, 8, 19);
        Due.checks("the other order", t, 304, 2, 0, 1, 0, 8, 19);
    }

    private static void noSuchThing() {
        FrameTyper t = Due.typer(1, 16, NONE, NONE, 0);
        for (int number : new int[] {3, 4, 5, 6}) {
            Due.checks(number + " of local 4", t, 400, number, 4, 19);
            Due.checks(number + " of local 255", t, 400, number, 255, 19);
        }
        Due.checks("new of class 8", t, 400, 14, 8, 19);
        Due.checks("cast to class 8", t, 402, 5, 1, 20, 8, 19);
        Due.checks("cast to class 7", t, 0, 5, 1, 20, 7, 19);
        Due.checks("field 6 read", t, 402, 5, 1, 16, 6, 19);
        Due.checks("field 5 read", t, 0, 5, 1, 16, 5, 19);
        Due.checks("field 6 written", t, 400, 17, 6, 19);
        Due.checks("routine 6", t, 400, 18, 6, 19);
        Due.checks("routine 5", t, 0, 18, 5, 19);
        Due.checks("any INT", t, 0, 1, 255, 19);
    }

    private static void newsOfFrames() {
        FrameTyper t = Due.typer(NONE, NONE, NONE, NONE, 0);
        Due.table(t, 1, 255, 1, 1, 8, 2, 0);
        Due.checks("a 14 begins there", t, 0, 19, 0, 14, 7, 19);
        Due.checks("a 14 of no class", t, 401, 19, 19, 14, 8, 19);
        Due.checks("a 14 without x", t, 401, 19, 19, 14);
        Due.checks("no 14", t, 401, 19, 19, 1, 14, 19);
        Due.checks("in the middle of one", t, 401, 19, 1, 14, 0, 19);
        Due.checks("none at all", t, 401, 19, 19);
        Due.table(t, 1, 255, 1, 1, 8, 3, 0);
        Due.checks("behind one that is not whole", t, 401, 19, 0, 22, 14, 0);
        Due.table(t, 1, 65, 8, 47);
        Due.checks("on the stack", t, 401, 19, 19);
        Due.table(t, 1, 255, 1, 1, 8, 2, 1, 8, 2);
        Due.checks("15 makes it everywhere", t, 0, 19, 15, 14, 7, 5, 0, 16, 0, 19);
        Due.table(t, 2, 255, 1, 1, 8, 5, 0, 1);
        Due.checks("it fits the same", t, 0, 19, 0, 0, 0, 0, 14, 1, 19);
        Due.table(t, 2, 255, 1, 1, 8, 5, 0, 255, 1, 1, 8, 6, 0);
        Due.checks("it does not fit another", t, 303, 19, 0, 0, 0, 0, 14, 1, 14, 1, 19);
    }

    private static void missing() {
        FrameTyper t = Due.typer(1, 16, NONE, NONE, 1);
        t.routine(0, 1, 16, 1, 1);
        Due.checks("4", t, 500, 4, 0);
        Due.checks("6", t, 500, 6, 0);
        Due.checks("7 with none", t, 500, 7);
        Due.checks("7 with one", t, 502, 3, 0, 7);
        Due.checks("7 with one that does not fit", t, 501, 2, 7);
        Due.checks("8", t, 500, 8);
        Due.checks("9", t, 500, 9);
        Due.checks("10 with one", t, 501, 2, 10);
        Due.checks("12", t, 500, 12, 0);
        Due.checks("13", t, 500, 13, 0);
        Due.checks("15", t, 500, 15);
        Due.checks("16", t, 500, 16, 0);
        Due.checks("17 with one", t, 502, 3, 0, 17, 0);
        Due.checks("18 with two", t, 504, 5, 1, 3, 0, 18, 0);
        Due.checks("19", t, 500, 19);
        Due.checks("20", t, 500, 20, 0);
        Due.checks("21", t, 500, 21);
    }

    private static void misfits() {
        FrameTyper t = Due.typer(1, 16, 17, NONE, 17);
        t.field(1, 1, 17);
        t.routine(0, 1, 17, NONE, 0);
        Due.checks("4 with NULL", t, 601, 2, 4, 0);
        Due.checks("6 with INT", t, 602, 1, 0, 6, 0);
        Due.checks("7 with an upper NULL", t, 603, 1, 0, 2, 7);
        Due.checks("7 with a lower NULL", t, 603, 2, 1, 0, 7);
        Due.checks("12 with NULL", t, 601, 2, 12, 0);
        Due.checks("13 with INT", t, 602, 1, 0, 13, 0);
        Due.checks("13 with a new one", t, 602, 14, 0, 13, 0);
        Due.checks("15 with an object", t, 602, 5, 1, 15);
        Due.checks("15 with NULL", t, 601, 2, 15);
        Due.checks("16 with INT", t, 602, 1, 0, 16, 1);
        Due.checks("16 with class 0", t, 602, 5, 1, 16, 1);
        Due.checks("16 with a new one", t, 602, 14, 1, 16, 1);
        Due.checks("17 with a wrong object", t, 604, 5, 1, 5, 2, 17, 1);
        Due.checks("17 with a wrong type", t, 604, 5, 2, 5, 1, 17, 1);
        Due.checks("17", t, 0, 5, 2, 5, 2, 17, 1, 2, 19);
        Due.checks("18 with a wrong first", t, 603, 2, 5, 2, 18, 0);
        Due.checks("18 with a wrong last", t, 604, 1, 0, 5, 1, 18, 0);
        Due.checks("19 with class 0", t, 602, 5, 1, 19);
        Due.checks("19 with class 1", t, 0, 5, 2, 19);
        Due.checks("20 with INT", t, 602, 3, 0, 20, 1);
        Due.checks("20 with a new one", t, 602, 14, 0, 20, 1);
        Due.checks("20 gives class 1", t, 0, 5, 1, 20, 1, 19);
        Due.checks("21 with INT", t, 602, 3, 0, 21);
        Due.checks("21 with a new one", t, 602, 14, 0, 21);
        Due.table(t, 1, 64 + 2, 0);
        Due.checks("TOP is no INT", t, 602, 1, 0, 4, 0);
        Due.checks("TOP is no object", t, 602, 1, 0, 21);
        Due.checks("TOP is not to be stored", t, 602, 1, 0, 6, 0);
        Due.checks("TOP is not made", t, 602, 1, 0, 15);
        Due.checks("TOP can be had twice", t, 0, 1, 0, 9, 8, 8, 2, 19);
    }

    private static void locals() {
        FrameTyper t = Due.typer(1, 16, NONE, NONE, 0);
        Due.checks("3 of INT", t, 0, 3, 0, 19);
        Due.checks("3 of an object", t, 600, 3, 1, 19);
        Due.checks("3 of TOP", t, 600, 3, 2, 19);
        Due.checks("5 of INT", t, 600, 5, 0, 19);
        Due.checks("5 of an object", t, 0, 5, 1, 19);
        Due.checks("5 of TOP", t, 600, 5, 3, 19);
        Due.checks("5 of NULL", t, 0, 2, 6, 3, 5, 3, 19);
        Due.checks("5 of a new one", t, 0, 14, 3, 6, 3, 5, 3, 15, 19);
        Due.checks("4 makes it INT", t, 0, 1, 0, 4, 1, 3, 1, 19);
        Due.checks("4 takes the object away", t, 604, 1, 0, 4, 1, 5, 1, 19);
        Due.checks("6 takes the INT away", t, 603, 2, 6, 0, 3, 0, 19);
        Due.checks("6 leaves others", t, 0, 2, 6, 1, 3, 0, 19);
    }

    private static void news() {
        FrameTyper t = Due.typer(NONE, NONE, NONE, NONE, 19);
        Due.checks("made, of its class", t, 0, 14, 3, 9, 15, 19);
        Due.checks("made, not of another class", t, 604, 14, 2, 9, 15, 19);
        Due.checks("not made", t, 602, 14, 3, 19);
        Due.checks("a local is made as well", t, 0, 14, 3, 9, 6, 1, 15, 5, 1, 19);
        Due.checks("another stays new", t, 606, 14, 3, 14, 3, 10, 15, 19);
        Due.checks("the one below is made", t, 0, 14, 3, 9, 14, 3, 10, 15, 8, 19);
        Due.table(t, 1, 255, 2, 1, 8, 2, 0);
        Due.checks("14 makes old ones in locals TOP", t, 605, 2, 19, 14, 3, 8, 5, 0, 19);
        Due.checks("and gives a new one", t, 0, 2, 19, 14, 3, 9, 15, 19);
        Due.table(t, 1, 255, 2, 1, 8, 5, 0);
        Due.checks("the old one is there before and not behind", t, 608,
                2, 19, 5, 0, 8, 14, 3, 8, 5, 0, 2, 19);
        Due.table(t, 1, 64 + 2, 8, 2);
        Due.checks("14 finds it on the stack", t, 602, 2, 19, 14, 3, 2, 19);
        Due.table(t, 1, 255, 2, 0, 3, 2, 8, 2, 2);
        Due.checks("14 finds it in the middle of the stack", t, 602, 2, 19, 14, 3, 2, 19);
        Due.table(t, 1, 255, 2, 0, 3, 2, 2, 8, 2);
        Due.checks("14 finds it on top of the stack", t, 602, 2, 19, 14, 3, 2, 19);
        Due.table(t, 1, 64 + 2, 8, 5);
        Due.checks("another 14 does not", t, 605, 2, 19, 14, 3, 8, 14, 3, 2, 19);
    }

    private static void tooHigh() {
        FrameTyper t = Due.typer(1, 16, NONE, NONE, 0);
        t.routine(0, NONE, NONE, NONE, 1);
        t.routine(1, 1, NONE, NONE, 1);
        Due.checks("five", t, 0, 2, 2, 2, 2, 2, 19);
        Due.checks("six", t, 705, 2, 2, 2, 2, 2, 2);
        Due.checks("1", t, 705, 2, 2, 2, 2, 2, 1, 0);
        Due.checks("3", t, 705, 2, 2, 2, 2, 2, 3, 0);
        Due.checks("5", t, 705, 2, 2, 2, 2, 2, 5, 1);
        Due.checks("9", t, 705, 2, 2, 2, 2, 2, 9);
        Due.checks("9 with four", t, 0, 2, 2, 2, 2, 9, 19);
        Due.checks("10", t, 0, 2, 2, 2, 2, 2, 10, 19);
        Due.checks("14", t, 705, 2, 2, 2, 2, 2, 14, 0);
        Due.checks("16", t, 0, 2, 2, 2, 2, 2, 16, 0, 19);
        Due.checks("18 that takes none", t, 705, 2, 2, 2, 2, 2, 18, 0);
        Due.checks("18 that takes one", t, 0, 2, 2, 2, 2, 1, 0, 18, 1, 19);
        Due.checks("20", t, 0, 2, 2, 2, 2, 2, 20, 0, 19);
    }

    private static void going() {
        FrameTyper t = Due.typer(1, 16, NONE, NONE, 0);
        Due.checks("11 to where no frame is", t, 800, 11, 2, 19);
        Due.table(t, 1, 2);
        Due.checks("11 to a frame", t, 0, 11, 2, 19);
        Due.table(t, 1, 4);
        Due.checks("12 goes or goes on", t, 0, 3, 0, 12, 2, 19);
        Due.checks("13 goes or goes on", t, 0, 5, 1, 13, 2, 19);
        Due.checks("13 with NULL", t, 0, 2, 13, 3, 19, 19);
        Due.checks("what there is does not fit", t, 903, 2, 3, 0, 12, 1, 8, 19);
        Due.checks("before the place", t, 804, 1, 0, 4, 0, 11, 251, 19);
        Due.checks("far before the place", t, 804, 1, 0, 4, 0, 11, 128, 19);
        Due.checks("far behind it", t, 804, 1, 0, 4, 0, 11, 127, 19);
        Due.table(t, 1, 0);
        Due.checks("back", t, 0, 3, 0, 12, 254, 19);
        Due.checks("to itself", t, 0, 11, 0);
        Due.table(t, 1, 1);
        Due.checks("back with other locals", t, 904, 0, 2, 6, 0, 11, 253);
        Due.checks("back with INT where an object was", t, 905, 0, 1, 0, 4, 1, 11, 252);
        Due.checks("back with NULL where an object was", t, 0, 0, 2, 6, 1, 11, 253);
    }

    private static void strayFrames() {
        FrameTyper t = Due.typer(NONE, NONE, NONE, NONE, 0);
        Due.table(t, 1, 1);
        Due.checks("in the middle of an instruction", t, 1001, 1, 0, 19);
        Due.checks("right behind the last byte", t, 1001, 19);
        Due.table(t, 2, 2, 44);
        Due.checks("far behind it", t, 1047, 0, 0, 19);
        Due.checks("the first of two", t, 1002, 0, 19);
        Due.checks("only when all else is right", t, 102, 1, 0);
        Due.table(t, 1, 65, 1);
        Due.checks("gone to but stray", t, 1001, 1, 0, 11, 255);
        Due.table(t, 1, 2);
        Due.checks("gone to right behind the last byte", t, 1002, 11, 2);
    }

    private static void orderOfFaults() {
        FrameTyper t = Due.typer(1, 16, NONE, NONE, 0);
        Due.table(t, 1, 65, 8, 40);
        Due.checks("3 before 4", t, 301, 0, 3, 9, 19);
        Due.checks("4 of the frame before 5", t, 401, 19, 7, 19);
        Due.table(t, 0);
        Due.checks("4 before 5", t, 400, 4, 9);
        Due.checks("5 before 6", t, 502, 5, 1, 7, 19);
        Due.checks("6 before 7", t, 605, 2, 2, 2, 2, 2, 3, 1);
        Due.checks("6 before 8", t, 602, 5, 1, 12, 9);
        Due.checks("2 before 4", t, 201, 19, 3, 9);
        Due.checks("the first place first", t, 801, 0, 11, 9, 22);
        Due.table(t, 1, 255, 2, 0, 5, 8, 2, 2, 2, 2, 2);
        Due.checks("6 of 14 before 7", t, 602, 0, 19, 14, 0);
        Due.table(t, 1, 255, 2, 0, 5, 8, 4, 2, 2, 2, 2);
        Due.checks("7 of another 14", t, 702, 0, 19, 14, 0, 14, 0);
    }

    private static void fitting() {
        FrameTyper t = Due.typer(NONE, NONE, NONE, NONE, 0);
        t.parent(2, 1);
        t.parent(3, 2);
        t.parent(5, 4);
        int[] types = {0, 1, 2, 16, 17, 18, 19, 20, 21};
        String[] fit = {
            "100000000", "110000000", "101111111", "100100000", "100110000",
            "100111000", "100111100", "100100010", "100100011"};
        for (int a = 0; a < types.length; a++) {
            for (int b = 0; b < types.length; b++) {
                boolean due = fit[a].charAt(b) == '1';
                Due.is("12: type " + types[a] + " fits " + types[b], fits(t, types[a], types[b]), due);
            }
        }
    }

    /** A frame at 1 with the one type on the stack, which comes to a frame at 2 with the other. */
    private static boolean fits(FrameTyper t, int a, int b) {
        int[] table = new int[7];
        int n = 0;
        table[n++] = 2;
        for (int type : new int[] {a, b}) {
            table[n] = n == 1 ? 65 : 64;
            n++;
            if (type >= 16) {
                table[n++] = 7;
                table[n++] = type - 16;
            } else {
                table[n++] = type;
            }
        }
        Due.table(t, java.util.Arrays.copyOf(table, n));
        Due.code(t, 19, 0, 8, 19);
        int answer = t.check();
        Due.is("12: fault 3 or none", answer == 0 || answer == 302, true);
        return answer == 0;
    }

    private static void stateStays() {
        FrameTyper t = Due.typer(1, NONE, NONE, NONE, 1);
        Due.table(t, 1, 2);
        Due.code(t, 0, 0, 3, 0, 19);
        for (int i = 0; i < 3; i++) {
            Due.is("12: check again", t.check(), 0);
        }
        Due.tableIs("12: the table stays", t, 1, 2);
        Due.is("12: the code stays", t.clear(), 5);
    }
}
