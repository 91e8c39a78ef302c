/** Promise 13, make: what comes where, and its faults, a test for each case. */
public final class Promise13Test {
    private static final int NONE = FrameTyper.NONE;
    private static final int[] WITH_X = {1, 3, 4, 5, 6, 11, 12, 13, 14, 16, 17, 18, 20};

    public static void main(String[] args) {
        Due.endAll(Promise13Test.class);
    }

    private static void fails(String what, int due, int... code) {
        Due.makeFails(what, new FrameTyper(), due, code);
    }

    private static void makes(String what, int[] code, int... table) {
        Due.makes(what, new FrameTyper(), code, table);
    }

    // ---- "the first place has what the method takes"

    static void theFirstPlaceHasWhatTheMethodTakes() {
        Due.makes("four, and an empty stack", Due.typer(1, 17, 18, 23, 0), Due.row(11, 0), 1, 0);
        Due.makes("each of them", Due.typer(1, 17, 18, 23, 0), Due.row(3, 0, 5, 1, 5, 2, 5, 3, 19), 0);
        makes("none", Due.row(11, 0), 1, 0);
        fails("no INT then", -600, 3, 0, 19);
    }

    // ---- "what an instruction leaves comes to those that follow it"

    /** Makes one frame, which is right behind the code that is told and an 11. */
    private static void leaves(String what, int[] code, int... form) {
        FrameTyper t = Due.typer(1, 17, NONE, NONE, 0);
        t.field(0, 1, 18);
        t.routine(0, 17, 1, NONE, 19);
        t.routine(1, 1, NONE, NONE, 0);
        Due.makes(what, t, Due.join(code, Due.row(11, 2, 19)), Due.join(Due.row(1), form));
    }

    static void whatEachInstructionLeaves() {
        leaves("0", Due.row(0), 3);
        leaves("1", Due.row(1, 9), 64 + 4, 1);
        leaves("2", Due.row(2), 64 + 3, 2);
        leaves("3", Due.row(3, 0), 64 + 4, 1);
        leaves("4", Due.row(1, 0, 4, 1), 255, 6, 2, 1, 1, 0);
        leaves("5", Due.row(5, 1), 64 + 4, 7, 1);
        leaves("6", Due.row(2, 6, 2), 252, 5, 2);
        leaves("7", Due.row(1, 0, 1, 0, 7), 64 + 7, 1);
        leaves("8", Due.row(2, 1, 0, 8), 64 + 6, 2);
        leaves("9", Due.row(5, 1, 9), 255, 5, 2, 1, 7, 1, 2, 7, 1, 7, 1);
        leaves("10", Due.row(2, 1, 0, 10), 255, 6, 2, 1, 7, 1, 2, 1, 2);
        leaves("14", Due.row(14, 3), 64 + 4, 8, 0);
        leaves("15", Due.row(14, 3, 9, 15), 64 + 6, 7, 3);
        leaves("15, in a local", Due.row(14, 3, 9, 6, 2, 15), 252, 8, 7, 3);
        leaves("16", Due.row(5, 1, 16, 0), 64 + 6, 7, 2);
        leaves("17", Due.row(5, 1, 2, 17, 0), 7);
        leaves("18", Due.row(5, 1, 1, 0, 18, 0), 64 + 8, 7, 3);
        leaves("18 that gives nothing", Due.row(1, 0, 18, 1), 6);
        leaves("20", Due.row(2, 20, 5), 64 + 5, 7, 5);
    }

    static void twelveAndThirteenLeaveWhatTheyHaveNotTaken() {
        makes("12", Due.row(2, 1, 0, 12, 2, 19), 1, 64 + 5, 2);
        makes("13", Due.row(1, 0, 2, 13, 2, 19), 1, 64 + 5, 1);
    }

    // "then what it leaves comes to the next place, if it goes on ..."
    static void elevenAndNineteenAndTwentyOneDoNotGoOn() {
        // Each stands before a place that is gone to with another height of the stack.
        makes("11", Due.row(1, 0, 12, 5, 2, 11, 3, 2, 8, 19), 2, 7, 64, 2);
        makes("19", Due.row(1, 0, 12, 4, 2, 19, 19), 1, 6);
        makes("21", Due.row(1, 0, 12, 5, 2, 2, 21, 19), 1, 7);
    }

    static void zeroAndTwelveAndThirteenGoOn() {
        fails("12", -305, 1, 0, 12, 3, 2, 19);
        fails("13", -304, 2, 13, 3, 2, 19);
        fails("0", -306, 1, 0, 12, 4, 2, 0, 19);
    }

    // ---- fault 1 "(also behind the last byte)"

    static void fault1EmptyCode() {
        fails("empty", -100);
    }

    static void fault1Number21IsTheLast() {
        makes("21", Due.row(2, 21), 0);
        fails("22", -101, 2, 22);
        fails("255", -101, 2, 255);
    }

    static void fault1TheSecondByteIsMissing() {
        for (int number : WITH_X) {
            fails(number + " alone", -100, number);
            int[] code = Due.times(48, 0);
            code[47] = number;
            fails(number + " as the last of 48", -147, code);
        }
    }

    static void fault1BehindTheLastByteOfEveryLength() {
        for (int n = 1; n <= 48; n++) {
            fails(n + " bytes", -100 - n, Due.times(n, 0));
        }
    }

    static void fault1BehindTheLastByteFrom12And13() {
        fails("12", -104, 1, 0, 12, 254);
        fails("13", -103, 2, 13, 255);
    }

    static void fault1NotBehindALast11Or19Or21() {
        makes("11", Due.row(11, 0), 1, 0);
        makes("19", Due.row(19), 0);
        makes("21", Due.row(2, 21), 0);
        int[] code = Due.times(48, 0);
        code[47] = 19;
        makes("19 at place 47", code, 0);
    }

    static void fault1WhereOneThatIsNotWholeIsGoneTo() {
        fails("an instruction begins there", -102, 11, 2, 22);
    }

    static void fault1NotWhereNothingComes() {
        fails("nothing comes to the 22", -201, 19, 22);
    }

    // ---- "At last: 2 at the first place where an instruction begins and nothing comes."

    static void fault2Behind11And19And21() {
        fails("11", -202, 11, 0, 19);
        fails("19", -201, 19, 19);
        fails("21", -202, 2, 21, 19);
    }

    static void fault2TheFirstOfSeveral() {
        fails("of three", -201, 19, 0, 0, 19);
        fails("one between is come to", -202, 11, 3, 19, 11, 2, 19, 19);
    }

    static void fault2AtPlace47() {
        int[] code = Due.times(48, 0);
        code[46] = 19;
        code[47] = 19;
        fails("place 47", -247, code);
    }

    static void fault2WhatGoesToItselfIsNotComeTo() {
        fails("its own loop", -202, 11, 4, 11, 0, 19);
    }

    static void fault2AtLast() {
        fails("after 1", -103, 11, 3, 19, 22);
        fails("after 5", -503, 11, 3, 19, 7);
        fails("after 8", -803, 11, 3, 19, 11, 1);
        fails("after 1 behind the last byte", -104, 11, 3, 19, 0);
    }

    static void fault2NotInTheMiddleOfAnInstruction() {
        makes("an x", Due.row(1, 0, 19), 0);
    }

    // ---- "(fault 3, at that place, if the stacks are not of one height)"

    /** Ways of so many and so many types come to one place, which is 4 + a + 2 + b. */
    private static int[] ways(int a, int b) {
        int[] split = {1, 0, 12, 4 + a};
        return Due.join(split, Due.times(a, 2), Due.row(11, 2 + b), Due.times(b, 2), Due.row(19));
    }

    static void fault3EveryTwoHeights() {
        for (int a = 0; a <= 5; a++) {
            for (int b = 0; b <= 5; b++) {
                FrameTyper t = new FrameTyper();
                Due.code(t, ways(a, b));
                int made = t.make();
                Due.is(a + " and " + b, a == b ? (made > 0 ? 0 : made) : made, a == b ? 0 : -306 - a - b);
            }
        }
    }

    static void fault3AtPlace0() {
        fails("one more", -300, 2, 11, 255);
        makes("as high", Due.row(2, 8, 11, 254), 1, 0);
    }

    static void fault3AtPlace47() {
        int[] code = Due.times(48, 0);
        code[0] = 2;
        code[1] = 13;
        code[2] = 46;
        code[47] = 19;
        makes("as high", code, 1, 47);
        code[46] = 2;
        fails("one more", -347, code);
    }

    static void fault3AtTheNextPlaceFirst() {
        // At 7 both the next place, 9, and the place gone to, 0, have another height.
        fails("9 before 0", -309, 1, 0, 12, 7, 2, 1, 0, 12, 249, 19);
    }

    static void fault3WhereItGoes() {
        fails("the next place is right", -300, 2, 1, 0, 12, 253, 8, 19);
    }

    // ---- faults 4, 5, 6, 7 "as above"

    static void fault4TheLastXAndTheFirstRefused() {
        FrameTyper t = Due.typer(1, 1, 1, 1, 0);
        Due.makes("local 3", t, Due.row(3, 3, 19), 0);
        Due.makeFails("local 4", t, -400, 3, 4, 19);
        makes("class 7", Due.row(14, 7, 19), 0);
        fails("class 8", -400, 14, 8, 19);
        makes("cast to class 7", Due.row(2, 20, 7, 19), 0);
        fails("cast to class 8", -401, 2, 20, 8, 19);
        makes("field 5", Due.row(2, 16, 5, 19), 0);
        fails("field 6", -401, 2, 16, 6, 19);
        makes("field 5 written", Due.row(2, 1, 0, 17, 5, 19), 0);
        fails("field 6 written", -403, 2, 1, 0, 17, 6, 19);
        makes("routine 5", Due.row(18, 5, 19), 0);
        fails("routine 6", -400, 18, 6, 19);
    }

    static void fault4NotByFramesOfTheTable() {
        FrameTyper t = new FrameTyper();
        Due.table(t, 1, 252, 0, 8, 9);
        Due.makes("the frame at 0 does not matter", t, Due.row(19), 0);
    }

    static void fault5OneIsMissing() {
        fails("4", -500, 4, 0);
        fails("7 with one", -502, 1, 0, 7);
        fails("8", -500, 8);
        fails("10 with one", -501, 2, 10);
        fails("12", -500, 12, 0);
        fails("15", -500, 15);
        fails("17 with one", -502, 1, 0, 17, 0);
        fails("21", -500, 21);
        Due.makeFails("19", Due.typer(NONE, NONE, NONE, NONE, 1), -500, 19);
    }

    static void fault6OneDoesNotFit() {
        fails("4 with NULL", -601, 2, 4, 0);
        fails("6 with INT", -602, 1, 0, 6, 0);
        fails("12 with NULL", -601, 2, 12, 0);
        fails("13 with INT", -602, 1, 0, 13, 0);
        fails("13 with a new one", -602, 14, 0, 13, 0);
        fails("15 with NULL", -601, 2, 15);
        fails("3 of TOP", -600, 3, 0);
        fails("5 of TOP", -600, 5, 0);
    }

    static void fault7FiveAndSix() {
        makes("five", Due.row(2, 2, 2, 2, 2, 19), 0);
        fails("six", -705, 2, 2, 2, 2, 2, 2, 19);
        makes("9 of four", Due.row(2, 2, 2, 2, 9, 19), 0);
        fails("9 of five", -705, 2, 2, 2, 2, 2, 9, 19);
    }

    static void faultsInTheirOrder() {
        fails("4 before 5", -400, 4, 4);
        fails("5 before 6", -501, 2, 7);
        fails("6 before 7", -605, 2, 2, 2, 2, 2, 3, 0);
        fails("5 before 8", -500, 12, 99);
        fails("6 before 8", -601, 2, 12, 99);
        // The next place of the second 12 has another height, and where it goes none begins.
        fails("8 before 3", -807, 1, 0, 12, 7, 2, 1, 0, 12, 99, 19);
    }

    // ---- "8 if it goes to a place where no instruction begins"

    static void fault8BehindTheLastByte() {
        fails("right behind", -800, 11, 2);
        fails("far behind", -800, 11, 127);
        makes("the last byte", Due.row(11, 2, 19), 1, 2);
    }

    static void fault8BeforePlace0() {
        fails("-1", -801, 0, 11, 254);
        fails("128 back", -801, 0, 11, 128);
        makes("0", Due.row(0, 11, 255), 1, 0);
    }

    static void fault8InTheMiddleOfAnInstruction() {
        fails("of another", -800, 11, 3, 1, 0, 19);
        fails("of itself", -800, 11, 1);
        makes("itself", Due.row(11, 0), 1, 0);
    }

    static void fault8BehindOneThatIsNotWhole() {
        fails("no instruction begins there", -800, 11, 3, 22, 19);
        fails("it begins at the 22 itself", -102, 11, 2, 22, 19);
    }

    static void fault8FarthestOnAndBack() {
        int[] code = Due.times(48, 0);
        code[46] = 11;
        code[47] = 256 - 46;
        makes("back to place 0", code, 1, 0);
        code[47] = 256 - 47;
        fails("back to place -1", -846, code);
        code[0] = 2;
        code[1] = 13;
        code[2] = 46;
        code[46] = 0;
        code[47] = 19;
        makes("on to place 47", code, 1, 47);
        code[2] = 47;
        fails("on to place 48", -801, code);
    }

    static void fault8OfEveryX() {
        // Instructions begin at 0, 1, 2, 3 and 5.
        for (int x = 0; x <= 255; x++) {
            int place = 3 + (x < 128 ? x : x - 256);
            boolean begins = place >= 0 && place <= 5 && place != 4;
            FrameTyper t = new FrameTyper();
            Due.code(t, 0, 0, 0, 11, x, 19);
            Due.is("x " + x, t.make(), !begins ? -803 : place == 5 ? 2 : -205);
        }
    }

    static void fault8OfThoseThatMayGoOn() {
        fails("12", -802, 1, 0, 12, 3, 19);
        fails("13", -801, 2, 13, 3, 19);
        makes("12 is right", Due.row(1, 0, 12, 2, 19), 1, 4);
        makes("13 is right", Due.row(2, 13, 2, 19), 1, 3);
    }

    // ---- "the lowest is worked on, until none is left"

    static void theLowestOfTwoFaults() {
        fails("4 before 6", -504, 1, 0, 12, 4, 7, 0, 7);
        fails("6 before 4", -506, 1, 0, 12, 4, 11, 3, 7, 7);
    }

    static void thePlaceBehindTheLastByteIsWorkedOnLast() {
        // 12 goes to 7 and on to 4; 4 goes to 8, from where the place behind the last is come to.
        fails("place 7 before place 9", -507, 1, 0, 12, 5, 11, 4, 19, 7, 0);
    }

    static void anEarlierPlaceIsWorkedOnAgainFirst() {
        FrameTyper t = Due.typer(1, NONE, NONE, NONE, 0);
        Due.makeFails("1 again before 10", t, -601, 0, 3, 0, 12, 7, 2, 6, 0, 11, 249, 7);
    }

    static void typesThatStayAreNotWorkedOnAgain() {
        makes("it ends", Due.row(0, 11, 255), 1, 0);
        makes("three loops end", Due.row(1, 0, 12, 254, 1, 0, 12, 250, 11, 248), 1, 0);
    }

    static void theLongestLineOfChanges() {
        FrameTyper t = Due.typer(20, 19, 18, 17, 0);
        for (int c = 2; c <= 4; c++) {
            t.parent(c, c - 1);
        }
        // Each round brings local 0 one class nearer to 1.
        Due.makes("three rounds", t, Due.row(5, 1, 6, 0, 5, 2, 6, 1, 5, 3, 6, 2, 11, 244),
                Due.join(Due.row(1), Due.frame(0, Due.row(17, 17, 17, 17), Due.row())));
    }

    static void aLaterRoundHasTheFault() {
        FrameTyper t = Due.typer(1, NONE, NONE, NONE, 0);
        Due.makeFails("local 0 is INT in the first round", t, -600, 3, 0, 8, 2, 6, 0, 11, 250);
    }

    // ---- "With a fault the table stays"

    static void theTableStaysWithAFault() {
        FrameTyper t = new FrameTyper();
        Due.code(t, 22);
        Due.table(t, Due.times(120, 9));
        Due.is("of a full table", t.make(), -100);
        Due.tableIs("full", t, Due.times(120, 9));
        t.table(0, 0);
        Due.is("of an empty one", t.make(), -100);
        Due.tableIs("empty", t);
    }

    static void theTableStaysWithFault2() {
        FrameTyper t = new FrameTyper();
        Due.makes("frames", t, Due.row(11, 2, 19), 1, 2);
        Due.code(t, 11, 4, 19, 0, 11, 0);
        Due.is("make()", t.make(), -202);
        Due.tableIs("as made before", t, 1, 2);
    }

    static void nothingOfAFaultIsLeft() {
        FrameTyper t = new FrameTyper();
        Due.code(t, 1, 0, 12, 4, 7, 0, 7);
        Due.is("a fault, while place 6 is still to be worked on", t.make(), -504);
        Due.makes("other code then", t, Due.row(19), 0);
        Due.code(t, 2, 2, 11, 255);
        Due.is("a fault, when places have types", t.make(), -301);
        Due.makes("other types then", t, Due.row(0, 0, 0, 19), 0);
        Due.code(t, 2, 11, 3, 19, 19);
        Due.is("no type of before is left", t.make(), -203);
    }

    static void theCodeAndTheWorldStay() {
        FrameTyper t = Due.typer(17, NONE, NONE, NONE, 18);
        t.parent(3, 2);
        t.field(1, 1, 19);
        Due.makes("made", t, Due.row(5, 0, 16, 1, 19), 0);
        Due.is("made again", t.make(), 1);
        Due.is("checked", t.check(), 0);
        Due.code(t, 5, 0, 19);
        Due.is("with a fault", t.make(), -602);
        Due.is("clear()", t.clear(), 3);
    }
}
