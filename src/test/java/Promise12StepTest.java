import java.util.Arrays;

/** Promise 12, check: each boundary case of what an instruction takes and gives, faults 4 to 7. */
public final class Promise12StepTest {
    private static final int NONE = FrameTyper.NONE;
    private static final int[] NOTHING = {};
    /** The place of the instruction that is looked at, behind a 14 at 0 and a 14 at 2. */
    private static final int PLACE = 6;
    private static final int NEW_OF_3 = 64;
    private static final int NEW_OF_4 = 64 + 2;
    private static final int NEW_HERE = 64 + PLACE;
    private static final int[] TYPES = {0, 1, 2, 16, 17, 18, 19, 20, 23, NEW_OF_3, NEW_OF_4};

    /**
     * What each number takes, from below: I INT, * anything, o NULL or an object, r these or new,
     * n new, 1 what fits an object of class 1, 2 what fits one of class 2.
     */
    private static final String[] TAKES = {
        "", "", "", "", "I", "", "r", "II", "*", "*", "**",
        "", "I", "o", "", "n", "1", "12", "1I2", "2", "o", "o"};
    private static final int[] GIVES = {
        0, 1, 1, 1, 0, 1, 0, 1, 0, 2, 2, 0, 0, 0, 1, 0, 1, 0, 1, 0, 1, 0};
    private static final String WITH_X = " 1 3 4 5 6 11 12 13 14 16 17 18 20 ";

    public static void main(String[] args) {
        Due.endAll(Promise12StepTest.class);
    }

    /** Class 3 is below 2; every field and routine and the method take what TAKES tells. */
    private static FrameTyper typer() {
        FrameTyper t = Due.typer(NONE, NONE, NONE, NONE, 18);
        t.parent(3, 2);
        for (int i = 0; i <= 5; i++) {
            t.field(i, 1, 18);
            t.routine(i, 17, 1, 18, 20);
        }
        return t;
    }

    /** With x 2, which for those that go leads to the place behind. */
    private static int[] instruction(int number) {
        return isWithX(number) ? Due.row(number, 2) : Due.row(number);
    }

    private static boolean isWithX(int number) {
        return WITH_X.contains(" " + number + " ");
    }

    private static boolean suits(char want, int type) {
        boolean nullOrObject = type == 2 || type >= 16 && type <= 23;
        switch (want) {
            case 'I': return type == 1;
            case '*': return true;
            case 'o': return nullOrObject;
            case 'r': return nullOrObject || type >= 64;
            case 'n': return type >= 64;
            case '1': return type == 2 || type == 17;
            default: return type == 2 || type == 18 || type == 19;
        }
    }

    /** A type for each that the number takes. */
    private static int[] taken(int number) {
        int[] types = new int[TAKES[number].length()];
        for (int i = 0; i < types.length; i++) {
            char want = TAKES[number].charAt(i);
            types[i] = Arrays.stream(TYPES).filter(type -> suits(want, type)).findFirst().getAsInt();
        }
        return types;
    }

    /** Locals of which 3 and 5 find the one that they are to give. */
    private static int[] localsFor(int number) {
        return Due.times(4, number == 3 ? 1 : 2);
    }

    /** Finds the one, and leaves the other to the place behind: 0, or a fault. */
    private static int answer(FrameTyper t, int[] code, int[][] found, int[][] left) {
        int[] before = Due.frame(PLACE, found[0], found[1]);
        int[] behind = Due.frame(code.length - 1, left[0], left[1]);
        Due.table(t, Due.join(Due.row(2), before, behind));
        // The 11 goes to itself, whatever lies there.
        Due.code(t, Due.join(Due.row(14, 3, 14, 4, 2, 21), code, Due.row(11, 0)));
        return t.check();
    }

    private static int[][] state(int[] locals, int... stack) {
        return new int[][] {locals, stack};
    }

    private static void leaves(String what, int[] code, int[][] found, int[][] left) {
        Due.is(what, answer(typer(), code, found, left), 0);
    }

    /** 606 if the types do not suit the instruction, and so on; what it leaves is as high as due. */
    private static int fault(FrameTyper t, int[] code, int[] locals, int[] stack) {
        int number = code[0];
        int height = stack.length - TAKES[number].length() + GIVES[number];
        int[] left = Due.times(Math.max(0, Math.min(5, height)), 0);
        return answer(t, code, state(locals, stack), state(NOTHING, left));
    }

    // ---- "4 ... or x is no local, class, field or routine"

    /** Every x below the bound is taken, and every other one refused. */
    private static void xBelow(int bound, int... numbers) {
        for (int number : numbers) {
            for (int x = 0; x <= 255; x++) {
                int got = fault(typer(), Due.row(number, x), localsFor(number), taken(number));
                Due.is(number + " " + x, got, x < bound ? 0 : 406);
            }
        }
    }

    static void fault4Locals0To3() {
        xBelow(4, 3, 4, 5, 6);
    }

    static void fault4Classes0To7() {
        xBelow(8, 14, 20);
    }

    static void fault4Fields0To5() {
        xBelow(6, 16, 17);
    }

    static void fault4Routines0To5() {
        xBelow(6, 18);
    }

    static void fault4NoneForAnyInt() {
        xBelow(256, 1);
    }

    static void fault4NoneForThoseThatGo() {
        for (int x = 0; x <= 255; x++) {
            for (int number = 11; number <= 13; number++) {
                int got = fault(typer(), Due.row(number, x), NOTHING, taken(number));
                Due.is(number + " " + x, got == 406, false);
            }
        }
    }

    // ---- "5 a type that it takes is missing"

    static void fault5OneOrMoreAreMissing() {
        for (int number = 0; number <= 21; number++) {
            int[] types = taken(number);
            for (int less = 1; less <= types.length; less++) {
                int[] rest = Arrays.copyOfRange(types, less, types.length);
                int got = fault(typer(), instruction(number), localsFor(number), rest);
                Due.is(number + " with " + rest.length, got, 506);
            }
        }
    }

    static void fault5JustEnough() {
        for (int number = 0; number <= 21; number++) {
            int got = fault(typer(), instruction(number), localsFor(number), taken(number));
            Due.is(number + " with " + taken(number).length, got, 0);
        }
    }

    static void fault5NoneWhereNothingIsTaken() {
        FrameTyper t = typer();
        t.method(NONE, NONE, NONE, NONE, 0);
        Due.is("19", answer(t, Due.row(19), state(NOTHING), state(NOTHING)), 0);
        t.routine(2, NONE, NONE, NONE, 0);
        Due.is("18", answer(t, Due.row(18, 2), state(NOTHING), state(NOTHING)), 0);
    }

    // ---- "6 one does not fit ..."

    static void fault6EveryTypeThatIsTaken() {
        for (int number = 0; number <= 21; number++) {
            for (int i = 0; i < TAKES[number].length(); i++) {
                for (int type : TYPES) {
                    int[] types = taken(number);
                    types[i] = type;
                    int got = fault(typer(), instruction(number), localsFor(number), types);
                    boolean suits = suits(TAKES[number].charAt(i), type);
                    Due.is(number + " with " + type + " as " + i, got, suits ? 0 : 606);
                }
            }
        }
    }

    static void fault6NotOfWhatLiesBelow() {
        for (int number = 0; number <= 21; number++) {
            for (int type : TYPES) {
                int[] types = Due.join(Due.row(type), taken(number));
                int got = fault(typer(), instruction(number), localsFor(number), types);
                Due.is(number + " above " + type, got, 0);
            }
        }
    }

    // "... or a local ..."
    static void fault6EveryTypeOfALocal() {
        for (int x = 0; x <= 3; x++) {
            for (int type : TYPES) {
                int[] locals = Due.times(4, 0);
                locals[x] = type;
                int got = fault(typer(), Due.row(3, x), locals, NOTHING);
                Due.is("3 of " + type, got, type == 1 ? 0 : 606);
                got = fault(typer(), Due.row(5, x), locals, NOTHING);
                Due.is("5 of " + type, got, type >= 2 ? 0 : 606);
            }
        }
    }

    static void fault6NotOfALocalThatIsStored() {
        for (int type : TYPES) {
            int[] locals = Due.times(4, type);
            Due.is("4 over " + type, fault(typer(), Due.row(4, 3), locals, Due.row(1)), 0);
            Due.is("6 over " + type, fault(typer(), Due.row(6, 3), locals, Due.row(2)), 0);
        }
    }

    // "... or 14 finds 64 + p on the stack"
    static void fault6The14FindsItsOwnOnTheStack() {
        for (int height = 1; height <= 4; height++) {
            for (int i = 0; i < height; i++) {
                int[] stack = Due.times(height, 0);
                stack[i] = NEW_HERE;
                Due.is(i + " of " + height, fault(typer(), Due.row(14, 2), NOTHING, stack), 606);
            }
        }
    }

    static void fault6The14FindsAnotherOnTheStack() {
        int[] stack = {NEW_OF_3, NEW_OF_4, NEW_OF_3, NEW_OF_4};
        Due.is("four others", fault(typer(), Due.row(14, 2), NOTHING, stack), 0);
    }

    static void fault6The14FindsItsOwnInLocalsAlone() {
        Due.is("four", fault(typer(), Due.row(14, 2), Due.times(4, NEW_HERE), NOTHING), 0);
    }

    // ---- "7 the stack would be too high" ("a STACK of at most 5")

    static void fault7EveryHeight() {
        for (int number = 0; number <= 21; number++) {
            int[] types = taken(number);
            for (int height = types.length; height <= 5; height++) {
                int[] stack = Due.join(Due.times(height - types.length, 0), types);
                int got = fault(typer(), instruction(number), localsFor(number), stack);
                int then = height - types.length + GIVES[number];
                Due.is(number + " at " + height, got, then > 5 ? 706 : 0);
            }
        }
    }

    static void fault7OfRoutinesThatGiveAndTakeNone() {
        FrameTyper t = typer();
        t.routine(2, NONE, NONE, NONE, 1);
        int[][] four = state(NOTHING, 0, 0, 0, 0);
        int[][] five = state(NOTHING, 0, 0, 0, 0, 0);
        Due.is("gives one to four", answer(t, Due.row(18, 2), four, five), 0);
        Due.is("gives one to five", answer(t, Due.row(18, 2), five, five), 706);
        t.routine(2, NONE, NONE, NONE, 0);
        Due.is("gives none to five", answer(t, Due.row(18, 2), five, five), 0);
        t.routine(2, 1, NONE, NONE, 1);
        int[][] withInt = state(NOTHING, 0, 0, 0, 0, 1);
        Due.is("takes one and gives one", answer(t, Due.row(18, 2), withInt, five), 0);
        t.routine(2, 1, NONE, NONE, 0);
        Due.is("takes one alone", answer(t, Due.row(18, 2), withInt, four), 0);
    }

    // ---- what is given, at the edges

    private static final int[] OF_EACH = {1, 2, 17, NEW_OF_3};

    static void zeroLeavesAll() {
        int[][] full = state(OF_EACH, 1, 2, 17, NEW_OF_3, 0);
        leaves("0", Due.row(0), full, full);
    }

    static void oneGivesIntForEveryX() {
        for (int x : new int[] {0, 127, 128, 255}) {
            leaves("1 " + x, Due.row(1, x), state(OF_EACH, 2, 2, 2, 2), state(OF_EACH, 2, 2, 2, 2, 1));
        }
    }

    static void twoGivesNull() {
        leaves("2", Due.row(2), state(OF_EACH, 1, 1, 1, 1), state(OF_EACH, 1, 1, 1, 1, 2));
    }

    static void fiveGivesWhatTheLocalHas() {
        for (int type : TYPES) {
            for (int x = 0; x <= 3 && type >= 2; x++) {
                int[] locals = Due.times(4, 1);
                locals[x] = type;
                leaves("5 of " + type, Due.row(5, x), state(locals), state(locals, type));
            }
        }
    }

    static void threeGivesIntAndTheLocalStays() {
        for (int x = 0; x <= 3; x++) {
            int[] locals = Due.times(4, 2);
            locals[x] = 1;
            leaves("3 " + x, Due.row(3, x), state(locals), state(locals, 1));
        }
    }

    static void fourChangesOneLocalAlone() {
        for (int x = 0; x <= 3; x++) {
            int[] locals = Due.times(4, 2);
            int[] then = locals.clone();
            then[x] = 1;
            leaves("4 " + x, Due.row(4, x), state(locals, 2, 1), state(then, 2));
        }
    }

    static void sixChangesOneLocalAlone() {
        for (int type : TYPES) {
            for (int x = 0; x <= 3 && type >= 2; x++) {
                int[] then = Due.times(4, 1);
                then[x] = type;
                leaves("6 " + x, Due.row(6, x), state(Due.times(4, 1), 1, type), state(then, 1));
            }
        }
    }

    static void sevenGivesOneInt() {
        leaves("7", Due.row(7), state(OF_EACH, 2, 1, 1), state(OF_EACH, 2, 1));
        leaves("7 of a full stack", Due.row(7), state(OF_EACH, 2, 2, 2, 1, 1), state(OF_EACH, 2, 2, 2, 1));
    }

    static void eightTakesTheTopmost() {
        leaves("8", Due.row(8), state(OF_EACH, 1, 2), state(OF_EACH, 1));
        leaves("8 of one", Due.row(8), state(OF_EACH, NEW_OF_3), state(OF_EACH));
    }

    static void nineGivesItTwice() {
        for (int type : TYPES) {
            leaves("9 of " + type, Due.row(9), state(OF_EACH, type), state(OF_EACH, type, type));
        }
        leaves("9 of four", Due.row(9), state(OF_EACH, 1, 1, 1, 2), state(OF_EACH, 1, 1, 1, 2, 2));
    }

    static void tenTurnsTheTwoTopmost() {
        for (int type : TYPES) {
            leaves("10 of " + type, Due.row(10), state(OF_EACH, type, 1), state(OF_EACH, 1, type));
        }
        leaves("10 of five", Due.row(10), state(OF_EACH, 1, 1, 1, 2, 17), state(OF_EACH, 1, 1, 1, 17, 2));
    }

    static void thoseThatGoTakeOneAtMost() {
        leaves("11", Due.row(11, 2), state(OF_EACH, 2, 1), state(OF_EACH, 2, 1));
        leaves("12", Due.row(12, 2), state(OF_EACH, 2, 1), state(OF_EACH, 2));
        leaves("13", Due.row(13, 2), state(OF_EACH, 1, 17), state(OF_EACH, 1));
    }

    // "locals that have it become TOP; gives 64 + p"
    static void fourteenMakesItsOwnInLocalsTop() {
        for (int x = 0; x <= 3; x++) {
            int[] locals = Due.times(4, NEW_OF_4);
            locals[x] = NEW_HERE;
            int[] then = Due.times(4, NEW_OF_4);
            then[x] = 0;
            leaves("local " + x, Due.row(14, 2), state(locals, 1), state(then, 1, NEW_HERE));
            for (int type : new int[] {1, 2, 16, 18, NEW_HERE}) {
                then[x] = type;
                int got = answer(typer(), Due.row(14, 2), state(locals, 1), state(then, 1, NEW_HERE));
                Due.is("local " + x + " is not " + type, got, 308);
            }
        }
    }

    // "wherever it still is, in locals and on the stack, it becomes an object of the class ..."
    static void fifteenMakesItEverywhere() {
        int[][] found = state(Due.times(4, NEW_OF_3), Due.times(5, NEW_OF_3));
        leaves("all", Due.row(15), found, state(Due.times(4, 19), Due.times(4, 19)));
    }

    static void fifteenMakesTheLastOne() {
        leaves("one", Due.row(15), state(NOTHING, NEW_OF_4), state(NOTHING));
    }

    static void fifteenMakesNoOther() {
        int[] locals = {NEW_OF_3, NEW_OF_4, 1, 2};
        int[] then = {19, NEW_OF_4, 1, 2};
        leaves("of 3", Due.row(15), state(locals, NEW_OF_4, NEW_OF_3, 0, NEW_OF_3),
                state(then, NEW_OF_4, 19, 0));
        int[] thenOf4 = {NEW_OF_3, 20, 1, 2};
        leaves("of 4", Due.row(15), state(locals, NEW_OF_4, NEW_OF_3, 0, NEW_OF_4),
                state(thenOf4, 20, NEW_OF_3, 0));
    }

    static void fifteenGivesTheClassOfThe14() {
        for (int c = 0; c <= 7; c++) {
            FrameTyper t = new FrameTyper();
            for (int as = 0; as <= 7; as++) {
                Due.table(t, 1, 64 + 4, 7, as);
                Due.checks(c + " as " + as, t, as == 0 || as == c ? 0 : 304, 14, c, 9, 15, 8, 19);
            }
        }
    }

    static void sixteenGivesTheFieldsType() {
        leaves("16", Due.row(16, 2), state(OF_EACH, 1, 17), state(OF_EACH, 1, 18));
        int got = answer(typer(), Due.row(16, 2), state(OF_EACH, 17), state(OF_EACH, 19));
        Due.is("no class below", got, 308);
    }

    static void seventeenGivesNothing() {
        leaves("17", Due.row(17, 2), state(OF_EACH, 1, 17, 18), state(OF_EACH, 1));
    }

    static void eighteenGivesWhatTheRoutineGives() {
        leaves("18", Due.row(18, 2), state(OF_EACH, 2, 17, 1, 18), state(OF_EACH, 2, 20));
        int got = answer(typer(), Due.row(18, 2), state(OF_EACH, 17, 1, 18), state(OF_EACH, 2));
        Due.is("and not NULL", got, 308);
    }

    static void twentyGivesAnyClass() {
        for (int c = 0; c <= 7; c++) {
            for (int type : new int[] {2, 16, 17, 23}) {
                leaves("20 " + c, Due.row(20, c), state(OF_EACH, 1, type), state(OF_EACH, 1, 16 + c));
                int as = c == 7 ? 22 : 23;
                int got = answer(typer(), Due.row(20, c), state(OF_EACH, type), state(OF_EACH, as));
                Due.is("20 " + c + " as " + as, got, 308);
            }
        }
    }

    static void nineteenAndTwentyOneLeaveNothing() {
        int[] any = {2, 2, 2, 2, 2};
        leaves("19", Due.row(19), state(OF_EACH, 1, 18), state(OF_EACH, any));
        leaves("21", Due.row(21), state(OF_EACH, 1, 18), state(OF_EACH, any));
    }
}
