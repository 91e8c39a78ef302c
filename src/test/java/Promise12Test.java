/** Promise 12, check: frames, faults and their order, a test for each case. */
public final class Promise12Test {
    private static final int NONE = FrameTyper.NONE;
    private static final int[] WITH_X = {1, 3, 4, 5, 6, 11, 12, 13, 14, 16, 17, 18, 20};
    private static final int[] NOTHING = {};

    public static void main(String[] args) {
        Due.endAll(Promise12Test.class);
    }

    private static FrameTyper withTable(int... table) {
        FrameTyper t = new FrameTyper();
        Due.table(t, table);
        return t;
    }

    // ---- "1 it is not whole" ("its number is at most 21, and it has its second byte")

    static void fault1Number21IsTheLast() {
        Due.checks("21", new FrameTyper(), 0, 2, 21);
        Due.checks("22", new FrameTyper(), 101, 2, 22);
    }

    static void fault1EveryNumberAbove21() {
        for (int number = 22; number <= 255; number++) {
            Due.checks("number " + number, new FrameTyper(), 100, number, 0, 19);
        }
    }

    static void fault1TheSecondByteIsMissing() {
        for (int number : WITH_X) {
            Due.checks(number + " alone", new FrameTyper(), 100, number);
            Due.checks(number + " behind others", new FrameTyper(), 102, 0, 0, number);
        }
    }

    static void fault1TheSecondByteIsMissingAtPlace47() {
        for (int number : WITH_X) {
            int[] code = Due.times(48, 0);
            code[47] = number;
            Due.checks(number + " as the last of 48", new FrameTyper(), 147, code);
        }
    }

    static void fault1OneByteIsEnoughForTheOthers() {
        int[] numbers = {0, 2, 7, 8, 9, 10, 15, 19, 21};
        int[] due = {101, 101, 500, 500, 500, 500, 500, 0, 500};
        for (int i = 0; i < numbers.length; i++) {
            Due.checks(numbers[i] + " alone", new FrameTyper(), due[i], numbers[i]);
        }
    }

    static void fault1TheSecondByteIsNoInstruction() {
        Due.checks("1 255 is no 255", new FrameTyper(), 0, 1, 255, 19);
        Due.checks("22 is an x there", new FrameTyper(), 0, 1, 22, 19);
    }

    // ---- "Behind the last byte: 1, if something comes there."

    static void behindTheLastByteOfEmptyCode() {
        Due.checks("no frame", new FrameTyper(), 100);
        Due.checks("a frame that fits", withTable(1, 0), 100);
        Due.checks("a frame that does not fit", withTable(1, 64, 1), 100);
        Due.checks("a frame far behind", withTable(1, 47), 100);
    }

    static void behindTheLastByteOfEveryLength() {
        for (int n = 1; n <= 48; n++) {
            Due.checks(n + " bytes", new FrameTyper(), 100 + n, Due.times(n, 0));
        }
    }

    static void behindTheLastByteOfTwo() {
        Due.checks("1 0", new FrameTyper(), 102, 1, 0);
        int[] code = Due.times(48, 0);
        code[46] = 1;
        Due.checks("48 bytes", new FrameTyper(), 148, code);
    }

    static void behindTheLastByteFrom12And13() {
        Due.checks("12 goes on", withTable(1, 0), 104, 1, 0, 12, 254);
        Due.checks("13 goes on", withTable(1, 0), 103, 2, 13, 255);
    }

    static void behindTheLastByteNothingComesFrom11And19And21() {
        Due.checks("11", withTable(1, 0), 0, 11, 0);
        Due.checks("19", new FrameTyper(), 0, 19);
        Due.checks("21", new FrameTyper(), 0, 2, 21);
    }

    static void behindTheLastByteNothingComesOf48() {
        int[] code = Due.times(48, 0);
        code[47] = 19;
        Due.checks("19 at place 47", new FrameTyper(), 0, code);
    }

    static void behindTheLastByteAFrameDoesNotHelp() {
        Due.checks("a frame that fits", withTable(1, 2), 102, 0, 0);
        Due.checks("a frame that does not fit", withTable(1, 66, 1), 102, 0, 0);
    }

    // ---- "2 nothing came here, and there is no frame"

    static void fault2Behind11And19And21() {
        Due.checks("11", withTable(1, 0), 202, 11, 0, 19);
        Due.checks("19", new FrameTyper(), 201, 19, 19);
        Due.checks("21", new FrameTyper(), 202, 2, 21, 19);
    }

    static void fault2AFrameIsEnough() {
        Due.checks("11", withTable(1, 2), 0, 11, 2, 19);
        Due.checks("19", withTable(1, 1), 0, 19, 19);
        Due.checks("21", withTable(1, 2), 0, 2, 21, 19);
    }

    static void fault2NotBehind12And13() {
        Due.checks("12", withTable(1, 0), 0, 1, 0, 12, 254, 19);
        Due.checks("13", withTable(1, 0), 0, 2, 13, 255, 19);
    }

    static void fault2AtPlace47() {
        int[] code = Due.times(48, 0);
        code[46] = 19;
        code[47] = 19;
        Due.checks("no frame", new FrameTyper(), 247, code);
        Due.checks("a frame", withTable(1, 47), 0, code);
    }

    static void fault2AFrameBesideDoesNotHelp() {
        Due.checks("a frame before", withTable(1, 0), 201, 19, 0, 19);
        Due.checks("a frame behind", withTable(1, 2), 201, 19, 0, 19);
    }

    static void fault2NeverAtPlace0() {
        Due.checks("what the method takes came there", new FrameTyper(), 0, 19);
    }

    // ---- "3 what came does not fit the frame"

    /**
     * What comes to place 6 as a frame at place 5 tells it, where another frame is: 306 or 0. There
     * are a 14 of class 3 at place 0 and one of class 4 at place 2.
     */
    private static int comes(FrameTyper t, int[] locals, int[] stack, int[] asLocals, int[] asStack) {
        int[] table = Due.join(Due.row(2), Due.frame(5, locals, stack), Due.frame(0, asLocals, asStack));
        Due.table(t, table);
        Due.code(t, 14, 3, 14, 4, 19, 0, 19);
        return t.check();
    }

    private static final int[] TYPES = {0, 1, 2, 16, 17, 18, 19, 20, 64, 66};
    /** Row by row, which of TYPES each of them fits; 2 is below 1, and 3 below 2. */
    private static final String[] FITS = {
        "1000000000", "1100000000", "1011111100", "1001000000", "1001100000",
        "1001110000", "1001111000", "1001000100", "1000000010", "1000000001"};

    private static FrameTyper family() {
        FrameTyper t = new FrameTyper();
        t.parent(2, 1);
        t.parent(3, 2);
        return t;
    }

    static void fault3EveryTypeInALocal() {
        for (int a = 0; a < TYPES.length; a++) {
            for (int b = 0; b < TYPES.length; b++) {
                int got = comes(family(), Due.row(TYPES[a]), NOTHING, Due.row(TYPES[b]), NOTHING);
                Due.is(TYPES[a] + " as " + TYPES[b], got, FITS[a].charAt(b) == '1' ? 0 : 306);
            }
        }
    }

    static void fault3EveryTypeOnTheStack() {
        for (int a = 0; a < TYPES.length; a++) {
            for (int b = 0; b < TYPES.length; b++) {
                int got = comes(family(), NOTHING, Due.row(TYPES[a]), NOTHING, Due.row(TYPES[b]));
                Due.is(TYPES[a] + " as " + TYPES[b], got, FITS[a].charAt(b) == '1' ? 0 : 306);
            }
        }
    }

    static void fault3EveryLocal() {
        int[] came = {1, 1, 1, 1};
        Due.is("all fit", comes(new FrameTyper(), came, NOTHING, came, NOTHING), 0);
        for (int i = 0; i < 4; i++) {
            int[] frame = came.clone();
            frame[i] = 2;
            Due.is("local " + i, comes(new FrameTyper(), came, NOTHING, frame, NOTHING), 306);
        }
    }

    static void fault3EveryTypeOfAFullStack() {
        int[] came = {1, 1, 1, 1, 1};
        Due.is("all fit", comes(new FrameTyper(), NOTHING, came, NOTHING, came), 0);
        for (int i = 0; i < 5; i++) {
            int[] frame = came.clone();
            frame[i] = 2;
            Due.is("type " + i, comes(new FrameTyper(), NOTHING, came, NOTHING, frame), 306);
        }
    }

    static void fault3TheStackMustBeAsHigh() {
        for (int came = 0; came <= 5; came++) {
            for (int told = 0; told <= 5; told++) {
                int got = comes(new FrameTyper(), NOTHING, Due.times(came, 0), NOTHING, Due.times(told, 0));
                Due.is(came + " for " + told, got, came == told ? 0 : 306);
            }
        }
    }

    static void fault3LocalsThatAreNotToldAreTop() {
        int[] came = {1, 1, 1, 1};
        for (int n = 0; n <= 4; n++) {
            int got = comes(new FrameTyper(), came, NOTHING, Due.times(n, 1), NOTHING);
            Due.is("four for " + n, got, 0);
            got = comes(new FrameTyper(), Due.times(n, 1), NOTHING, came, NOTHING);
            Due.is(n + " for four", got, n == 4 ? 0 : 306);
        }
    }

    static void fault3AtPlace0() {
        FrameTyper t = Due.typer(1, 17, NONE, NONE, 0);
        Due.table(t, 1, 0);
        Due.checks("what the method takes", t, 0, 19);
        Due.table(t, 1, 249, 0);
        Due.checks("less than that", t, 0, 19);
        Due.table(t, 1, 252, 0, 1);
        Due.checks("more than that", t, 300, 19);
        Due.table(t, 1, 64, 1);
        Due.checks("a stack", t, 300, 19);
    }

    static void fault3AtPlace47() {
        int[] code = Due.times(48, 0);
        code[47] = 19;
        Due.checks("it fits", withTable(1, 47), 0, code);
        Due.checks("it does not fit", withTable(1, 64 + 47, 1), 347, code);
    }

    // "(if something came there)"
    static void fault3NotWhereNothingCame() {
        Due.checks("any locals", withTable(1, 254, 1, 1, 2, 1), 0, 19, 19);
        Due.checks("any stack", withTable(1, 255, 1, 0, 5, 1, 1, 1, 1, 1), 0, 19, 19);
    }

    // "and from there on it is as the frame says"
    static void fromThereOnItIsAsTheFrameSays() {
        FrameTyper t = Due.typer(1, NONE, NONE, NONE, 0);
        Due.table(t, 1, 250, 1);
        Due.checks("local 0 is TOP", t, 601, 0, 3, 0, 19);
        t.field(0, 1, 1);
        Due.table(t, 1, 67, 7, 0);
        Due.checks("an object is of class 0", t, 603, 2, 20, 1, 16, 0, 19);
        Due.table(t, 0);
        Due.is("without the frame it does", t.check(), 0);
    }

    // ---- "4 the frame has a type 64 + q, and at q no 14 of a class begins"

    /** 405 if the frame of place 5 is wrong, 206 if not: nothing comes to the 14 at place 6. */
    private static int framed(int x, int[] locals, int[] stack) {
        FrameTyper t = new FrameTyper();
        Due.table(t, Due.join(Due.row(2), Due.frame(2, NOTHING, NOTHING), Due.frame(2, locals, stack)));
        Due.code(t, 11, 2, 1, 14, 19, 19, 14, x, 8, 19);
        return t.check();
    }

    static void fault4EverySlotOfTheFrame() {
        for (int slot = 0; slot < 9; slot++) {
            int[] locals = Due.times(4, 0);
            int[] stack = Due.times(5, 0);
            if (slot < 4) {
                locals[slot] = 64 + 4;
            } else {
                stack[slot - 4] = 64 + 4;
            }
            Due.is("slot " + slot, framed(0, locals, stack), 405);
        }
        Due.is("none", framed(0, Due.times(4, 0), Due.times(5, 0)), 206);
    }

    static void fault4TheClassOfThe14() {
        Due.is("class 0", framed(0, Due.row(64 + 6), NOTHING), 206);
        Due.is("class 7", framed(7, Due.row(64 + 6), NOTHING), 206);
        Due.is("class 8", framed(8, Due.row(64 + 6), NOTHING), 405);
        Due.is("class 255", framed(255, Due.row(64 + 6), NOTHING), 405);
    }

    static void fault4NoInstructionBeginsThere() {
        Due.is("14 as an x", framed(0, Due.row(64 + 3), NOTHING), 405);
        Due.is("the x of the 14", framed(14, Due.row(64 + 7), NOTHING), 405);
        Due.is("right behind the code", framed(0, Due.row(64 + 10), NOTHING), 405);
        Due.is("the last place", framed(0, Due.row(64 + 47), NOTHING), 405);
    }

    static void fault4AnotherInstructionBeginsThere() {
        for (int place : new int[] {0, 2, 4, 5, 8, 9}) {
            Due.is("place " + place, framed(0, Due.row(64 + place), NOTHING), 405);
        }
    }

    static void fault4The14HasNoSecondByte() {
        Due.checks("14 as the last byte", withTable(1, 252, 1, 8, 2), 401, 19, 19, 14);
    }

    static void fault4The14BehindOneThatIsNotWhole() {
        Due.checks("no instruction begins there", withTable(1, 252, 1, 8, 3), 401, 19, 19, 22, 14, 0);
    }

    static void fault4The14AtPlaces0And46() {
        int[] code = Due.times(48, 0);
        code[0] = 14;
        code[2] = 19;
        code[3] = 19;
        code[46] = 14;
        Due.checks("place 0", withTable(1, 252, 3, 8, 0), 204, code);
        Due.checks("place 46", withTable(1, 252, 3, 8, 46), 204, code);
        Due.checks("place 45", withTable(1, 252, 3, 8, 45), 403, code);
        Due.checks("place 47", withTable(1, 252, 3, 8, 47), 403, code);
    }

    static void fault4The14OfTheFrameItself() {
        Due.checks("in a local", withTable(1, 252, 1, 8, 1), 0, 19, 14, 0, 19);
    }

    static void fault4OnlyWhereTheFrameIs() {
        // The 11 goes to the frame at 3 before its types are looked at.
        int[] table = Due.join(Due.row(2), Due.frame(0, NOTHING, NOTHING),
                Due.frame(2, NOTHING, Due.row(64 + 9)));
        Due.checks("the first fault is that of place 1", withTable(table), 901, 0, 11, 2, 19);
        Due.checks("a stray frame's types do not matter", withTable(1, 65, 8, 9), 1001, 1, 0, 19);
    }

    // ---- "8 it goes to a place where no frame is" (x being signed)

    static void fault8NoFrameThere() {
        Due.checks("11", new FrameTyper(), 800, 11, 2, 19);
        Due.checks("12", new FrameTyper(), 802, 1, 0, 12, 2, 19);
        Due.checks("13", new FrameTyper(), 801, 2, 13, 2, 19);
    }

    static void fault8AFrameBesideIsNotEnough() {
        Due.checks("before it", withTable(1, 1), 802, 0, 0, 11, 2, 19);
        Due.checks("behind it", withTable(1, 5), 802, 0, 0, 11, 2, 19);
        Due.checks("there", withTable(1, 4), 0, 0, 0, 11, 2, 19);
    }

    static void fault8ToItself() {
        Due.checks("no frame", new FrameTyper(), 800, 11, 0);
        Due.checks("a frame", withTable(1, 0), 0, 11, 0);
    }

    static void fault8BehindTheLastByte() {
        Due.checks("no frame", new FrameTyper(), 800, 11, 2);
        Due.checks("a frame, which is then stray", withTable(1, 2), 1002, 11, 2);
    }

    static void fault8BeforePlace0() {
        Due.checks("to -1", withTable(1, 0), 801, 0, 11, 254);
        Due.checks("to 0", withTable(1, 0), 0, 0, 11, 255);
    }

    static void fault8FarthestOn() {
        int[] code = Due.times(48, 0);
        code[0] = 2;
        code[1] = 13;
        code[2] = 46;
        code[47] = 19;
        Due.checks("to place 47", withTable(1, 47), 0, code);
        code[2] = 47;
        Due.checks("to place 48", withTable(1, 47), 801, code);
    }

    static void fault8FarthestBack() {
        int[] code = Due.times(48, 0);
        code[46] = 11;
        code[47] = 256 - 46;
        Due.checks("to place 0", withTable(1, 0), 0, code);
        code[47] = 256 - 47;
        Due.checks("to place -1", withTable(1, 0), 846, code);
    }

    static void fault8TheEdgesOfTheSign() {
        int[] all = Due.join(Due.row(48), Due.times(48, 0));
        Due.checks("127 is 127 on", withTable(all), 801, 0, 11, 127);
        Due.checks("128 is 128 back", withTable(all), 801, 0, 11, 128);
        Due.checks("255 is 1 back", withTable(all), 1002, 0, 11, 255);
    }

    static void fault8WithAFrameAtEachPlace() {
        int[] table = Due.join(Due.row(48), Due.times(48, 0));
        for (int x = 0; x <= 255; x++) {
            int place = 2 + (x < 128 ? x : x - 256);
            boolean inside = place >= 0 && place <= 47;
            Due.checks("x " + x, withTable(table), inside ? 1003 : 802, 0, 0, 11, x, 19);
        }
    }

    // ---- "9 what there is does not fit that one"

    static void fault9TheHeight() {
        Due.checks("one more", withTable(1, 4), 901, 2, 11, 3, 19, 19);
        Due.checks("as high", withTable(1, 68, 2), 203, 2, 11, 3, 19, 19);
        Due.checks("one less", withTable(1, 67, 2), 900, 11, 3, 19, 19);
    }

    static void fault9EveryLocal() {
        for (int i = 0; i < 4; i++) {
            int[] locals = {1, 1, 1, 1};
            locals[i] = 2;
            FrameTyper t = Due.typer(1, 1, 1, 1, 0);
            Due.table(t, Due.join(Due.row(1), Due.frame(2, locals, NOTHING)));
            Due.checks("local " + i, t, 900, 11, 2, 19);
        }
    }

    static void fault9EveryTypeOfAFullStack() {
        for (int i = 0; i < 5; i++) {
            int[] stack = {2, 2, 2, 2, 2};
            FrameTyper t = withTable(Due.join(Due.row(1), Due.frame(7, NOTHING, stack)));
            Due.checks("all fit", t, 0, 2, 2, 2, 2, 2, 11, 2, 19);
            stack[i] = 1;
            Due.table(t, Due.join(Due.row(1), Due.frame(7, NOTHING, stack)));
            Due.is("type " + i, t.check(), 905);
        }
    }

    static void fault9WhatIsTakenIsNotThereAnyMore() {
        Due.checks("12", withTable(1, 4), 0, 1, 0, 12, 2, 19);
        Due.checks("12 with its INT", withTable(1, 68, 1), 902, 1, 0, 12, 2, 19);
        Due.checks("13", withTable(1, 3), 0, 2, 13, 2, 19);
        Due.checks("13 with its NULL", withTable(1, 67, 2), 901, 2, 13, 2, 19);
    }

    static void fault9BeforeAFault3OfTheNextPlace() {
        Due.checks("place 2 before place 4", withTable(1, 68, 1), 902, 1, 0, 12, 2, 19);
    }

    static void fault9GoingBack() {
        FrameTyper t = Due.typer(1, NONE, NONE, NONE, 0);
        Due.table(t, 1, 0);
        Due.checks("as it was", t, 0, 0, 11, 255);
        Due.checks("another local", t, 903, 2, 6, 0, 11, 253);
        Due.table(t, 1, 250, 0);
        Due.is("TOP from the beginning", t.check(), 0);
    }

    // ---- "A frame at whose place no instruction begins: 10, at its place, ..."

    static void fault10InTheMiddleOfAnInstruction() {
        Due.checks("an x", withTable(1, 1), 1001, 1, 0, 19);
        Due.checks("its beginning", withTable(1, 0), 0, 1, 0, 19);
        Due.checks("behind it", withTable(1, 66, 1), 0, 1, 0, 19);
    }

    static void fault10BehindTheLastByte() {
        Due.checks("at the last byte", withTable(1, 1), 0, 0, 19);
        Due.checks("right behind it", withTable(1, 2), 1002, 0, 19);
        Due.checks("at place 47", withTable(1, 47), 1047, 0, 19);
    }

    static void fault10AtPlace47OfFullCode() {
        int[] code = Due.times(48, 0);
        code[46] = 11;
        Due.checks("the x of the last one", withTable(2, 46, 0), 1047, code);
    }

    // "(the first such one)"
    static void fault10TheFirst() {
        Due.checks("of two", withTable(2, 1, 1), 1001, 1, 0, 1, 0, 19);
        Due.checks("behind right ones", withTable(3, 0, 0, 40), 1001, 1, 0, 19);
    }

    // "when all else is right"
    static void fault10OnlyWhenAllElseIsRight() {
        Due.checks("1", withTable(1, 1), 102, 1, 0, 22);
        Due.checks("1 behind the last byte", withTable(1, 1), 102, 1, 0);
        Due.checks("2", withTable(1, 1), 203, 1, 0, 19, 19);
        Due.checks("3", withTable(2, 1, 0), 302, 1, 0, 19);
        Due.checks("4", withTable(1, 1), 402, 1, 0, 14, 8);
        Due.checks("5", withTable(1, 1), 502, 1, 0, 7, 19);
        Due.checks("6", withTable(1, 1), 602, 1, 0, 21);
        Due.checks("7", withTable(1, 1), 706, 1, 0, 2, 2, 2, 2, 2);
        Due.checks("8", withTable(1, 1), 802, 1, 0, 11, 2, 19);
        Due.checks("9", withTable(1, 1), 902, 1, 0, 11, 255);
    }

    // ---- "FAULTS, the first that holds at an instruction, in this order"

    static void fault1Before2() {
        Due.checks("22 behind 19", new FrameTyper(), 101, 19, 22);
    }

    static void fault1Before3() {
        Due.checks("22 with a frame", withTable(1, 64, 1), 100, 22);
    }

    static void fault1Before4() {
        Due.checks("14 alone with a frame", withTable(1, 252, 1, 8, 9), 101, 19, 14);
    }

    static void fault1Before7() {
        Due.checks("1 alone above five", new FrameTyper(), 105, 2, 2, 2, 2, 2, 1);
    }

    static void fault2Before4() {
        Due.checks("14 of class 8 behind 19", new FrameTyper(), 201, 19, 14, 8);
    }

    static void fault2Before5() {
        Due.checks("7 behind 19", new FrameTyper(), 201, 19, 7);
    }

    static void fault2Before6() {
        Due.checks("3 of TOP behind 19", new FrameTyper(), 201, 19, 3, 0);
    }

    static void fault2Before7() {
        Due.checks("2 behind five and 19", new FrameTyper(), 206, 2, 2, 2, 2, 2, 19, 2);
    }

    static void fault2Before8() {
        Due.checks("11 behind 19", new FrameTyper(), 201, 19, 11, 9);
    }

    static void fault2Before9() {
        Due.checks("11 to one on the stack", withTable(1, 67, 1), 201, 19, 11, 2, 19);
    }

    static void fault3Before5() {
        Due.checks("7 of one", withTable(1, 65, 1), 301, 0, 7, 19);
    }

    static void fault3Before6() {
        Due.checks("21 of INT", withTable(1, 65, 1), 301, 0, 21);
    }

    static void fault3Before7() {
        Due.checks("2 above five", withTable(1, 255, 1, 0, 5, 1, 1, 1, 1, 1), 301, 0, 2, 19);
    }

    static void fault3Before8() {
        Due.checks("11 to no frame", withTable(1, 65, 1), 301, 0, 11, 9);
    }

    static void fault3Before9() {
        Due.checks("11 to one that does not fit", withTable(2, 65, 1, 1), 301, 0, 11, 2, 19);
    }

    static void fault3Before4() {
        Due.checks("of the frame", withTable(1, 65, 8, 9), 301, 0, 19);
        Due.checks("of x", withTable(1, 65, 1), 301, 0, 14, 8);
    }

    static void fault4Before5() {
        Due.checks("of x", new FrameTyper(), 400, 4, 4);
        Due.checks("of the frame", withTable(1, 252, 1, 8, 9), 401, 19, 7);
    }

    static void fault4Before6() {
        Due.checks("of x", new FrameTyper(), 401, 2, 4, 4);
        Due.checks("of the frame", withTable(1, 65, 8, 9), 401, 19, 21);
    }

    static void fault4Before7() {
        Due.checks("of x", new FrameTyper(), 405, 2, 2, 2, 2, 2, 14, 8);
        Due.checks("of x of a local", new FrameTyper(), 405, 2, 2, 2, 2, 2, 5, 4);
    }

    static void fault4Before8() {
        Due.checks("of the frame", withTable(1, 252, 1, 8, 9), 401, 19, 11, 9);
    }

    static void fault4Before9() {
        int[] table = Due.join(Due.row(2), Due.frame(1, Due.row(64 + 9), Due.row(1)),
                Due.frame(1, NOTHING, NOTHING));
        Due.checks("of the frame", withTable(table), 401, 19, 11, 2, 19);
    }

    static void fault5Before6() {
        Due.checks("the one that is there does not fit", new FrameTyper(), 501, 2, 7);
    }

    static void fault5Before8() {
        Due.checks("12", new FrameTyper(), 500, 12, 99);
    }

    static void fault5Before9() {
        Due.checks("12", withTable(1, 66, 1), 500, 12, 2, 19);
        Due.checks("13", withTable(1, 66, 1), 500, 13, 2, 19);
    }

    static void fault6Before7() {
        Due.checks("a local", new FrameTyper(), 605, 2, 2, 2, 2, 2, 3, 0);
        FrameTyper t = withTable(1, 255, 1, 0, 5, 8, 1, 0, 0, 0, 0);
        Due.checks("14", t, 601, 19, 14, 0);
    }

    static void fault6Before8() {
        Due.checks("12", new FrameTyper(), 601, 2, 12, 99);
        Due.checks("13", new FrameTyper(), 602, 1, 0, 13, 99);
    }

    static void fault6Before9() {
        Due.checks("12", withTable(1, 67, 1), 601, 2, 12, 2, 19);
        Due.checks("13", withTable(1, 68, 2), 602, 1, 0, 13, 2, 19);
    }

    static void thePlaceBeforeTheFault() {
        Due.checks("8 at 1 before 1 at 3", new FrameTyper(), 801, 0, 11, 2, 22);
        Due.checks("5 at 0 before 4 at 1", new FrameTyper(), 500, 7, 14, 8);
    }

    // ---- "IllegalArgumentException when the table is malformed."

    static void aMalformedTable() {
        FrameTyper t = withTable(1, 200);
        Due.is("without code", Due.throwsOnCheck(t), true);
        Due.code(t, 19);
        Due.is("with right code", Due.throwsOnCheck(t), true);
        Due.code(t, 22);
        Due.is("with wrong code", Due.throwsOnCheck(t), true);
        Due.tableIs("the table stays", t, 1, 200);
        Due.is("the code stays", t.clear(), 1);
    }

    static void anEmptyTable() {
        FrameTyper t = withTable();
        Due.code(t, 19);
        Due.is("check()", Due.throwsOnCheck(t), true);
        t.table(0, 1);
        Due.is("check() with no frame", t.check(), 0);
    }

    static void nothingChanges() {
        FrameTyper t = withTable(1, 4);
        Due.checks("check()", t, 0, 1, 0, 12, 2, 19);
        Due.is("check() again", t.check(), 0);
        Due.tableIs("the table stays", t, 1, 4);
        Due.is("the code stays", t.clear(), 5);
    }

    static void nothingChangesWithAFault() {
        FrameTyper t = withTable(1, 3);
        Due.checks("check()", t, 802, 1, 0, 12, 2, 19);
        Due.is("check() again", t.check(), 802);
        Due.tableIs("the table stays", t, 1, 3);
        Due.is("the code stays", t.clear(), 5);
    }
}
