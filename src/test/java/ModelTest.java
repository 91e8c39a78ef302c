import java.util.Arrays;
import java.util.Random;
import java.util.TreeMap;

/** Long runs of drawn calls, each answer compared with the model's. */
public final class ModelTest {
    private static final int RUNS = 2500;
    /** What later calls of an object answer is free. */
    private static final int CALLS = 512;
    private static final int MALFORMED = 1000001;
    private static final int TOO_LONG = 1000002;

    /** Ends a run when its object has had all its calls. */
    private static final class Spent extends RuntimeException {
        private static final long serialVersionUID = 1L;
    }

    private final Random random;
    private final FrameTyper object = new FrameTyper();
    private int calls;
    private final Model model = new Model();
    /** A model of the same world, on which code is tried before it is used. */
    private final Model probe = new Model();
    private final TreeMap<String, Integer> seen;

    private ModelTest(long seed, TreeMap<String, Integer> seen) {
        random = new Random(seed);
        this.seen = seen;
    }

    public static void main(String[] args) {
        int runs = args.length > 0 ? Integer.parseInt(args[0]) : RUNS;
        long first = args.length > 1 ? Long.parseLong(args[1]) : 1;
        TreeMap<String, Integer> seen = new TreeMap<>();
        for (int run = 0; run < runs; run++) {
            new ModelTest(first + run, seen).run("run " + (first + run));
        }
        if (args.length > 2) {
            System.out.println(seen);
        }
        everythingSeen(seen);
        Due.end("ModelTest");
    }

    /** Drawn runs tell little if they never come to what they are to test. */
    private static void everythingSeen(TreeMap<String, Integer> seen) {
        for (int fault = 0; fault <= 10; fault++) {
            Due.is("check was seen with fault " + fault, seen.getOrDefault("check " + fault, 0) > 10, true);
        }
        for (int fault = 0; fault <= 8; fault++) {
            Due.is("make was seen with fault " + fault, seen.getOrDefault("make " + fault, 0) > 10, true);
        }
        for (int tag : new int[] {248, 249, 250, 252, 253, 254, 255}) {
            Due.is("tag " + tag + " was made", seen.getOrDefault("tag " + tag, 0) > 3, true);
        }
        Due.is("runs had all their calls", seen.getOrDefault("spent", 0) > 10, true);
        Due.is("malformed was seen", seen.getOrDefault("malformed", 0) > 10, true);
        Due.is("too long was seen", seen.getOrDefault("too long", 0) > 3, true);
    }

    private void run(String what) {
        try {
            for (int round = 0; round < CALLS; round++) {
                runRound(what, round);
            }
        } catch (Spent e) {
            seen.merge("spent", 1, Integer::sum);
        }
    }

    private void runRound(String what, int round) {
        if (round == 0 || draw(3) == 0) {
            drawWorld();
        }
        if (draw(3) == 0) {
            drawCode();
        } else {
            growCode();
        }
        for (int k = draw(3); k >= 0; k--) {
            compareCheck(what);
            compareMake(what);
            compareCheck(what);
            compareFrames(what);
            changeTable();
            compareCheck(what);
            compareFrames(what);
            appendDrawnCode();
        }
    }

    /** The object, for one call. */
    private FrameTyper typer() {
        if (calls == CALLS) {
            throw new Spent();
        }
        calls++;
        return object;
    }

    private int draw(int bound) {
        return random.nextInt(bound);
    }

    private int drawKnown() {
        return draw(3) == 0 ? 1 : 16 + draw(8);
    }

    private int drawType() {
        return draw(40) == 0 ? draw(30) - 3 : drawKnown();
    }

    private void drawWorld() {
        for (int k = 0; k < 3; k++) {
            int c = draw(10) - 1;
            int parent = draw(8) - (draw(30) == 0 ? 1 : 0);
            Due.is("parent", typer().parent(c, parent), model.parent(c, parent));
            probe.parent(c, parent);
            int f = draw(8) - 1;
            int fc = draw(9);
            int ft = drawType();
            Due.is("field", typer().field(f, fc, ft), model.field(f, fc, ft));
            probe.field(f, fc, ft);
            int[] r = drawRow(3);
            int given = draw(3) == 0 ? 0 : drawType();
            int which = draw(8) - 1;
            Due.is("routine", typer().routine(which, r[0], r[1], r[2], given),
                    model.routine(which, r[0], r[1], r[2], given));
            probe.routine(which, r[0], r[1], r[2], given);
        }
        int[] m = drawRow(4);
        int gives = draw(2) == 0 ? 0 : drawType();
        Due.is("method", typer().method(m[0], m[1], m[2], m[3], gives),
                model.method(m[0], m[1], m[2], m[3], gives));
        probe.method(m[0], m[1], m[2], m[3], gives);
    }

    private int[] drawRow(int most) {
        int[] row = new int[most];
        int filled = draw(most + 1);
        for (int i = 0; i < most; i++) {
            row[i] = i < filled || draw(60) == 0 ? drawType() : -1;
        }
        return row;
    }

    private void drawCode() {
        Due.is("clear", typer().clear(), model.clear());
        int many = draw(24);
        for (int i = 0; i < many; i++) {
            appendInstruction();
        }
        if (draw(8) != 0) {
            appendCode(19, 1);
        }
    }

    private void appendDrawnCode() {
        if (draw(2) == 0) {
            appendInstruction();
        }
        if (draw(20) == 0) {
            appendCode(random.nextLong(), draw(10));
        }
    }

    private void appendInstruction() {
        int[] bytes = drawInstruction();
        appendCode(bytes.length == 1 ? bytes[0] : bytes[0] * 256 + bytes[1], bytes.length);
    }

    /** Numbers that give come more often than those that take, and ends are rare. */
    private int[] drawInstruction() {
        int[] often = {1, 2, 3, 5, 1, 2, 3, 5, 14, 4, 6, 9, 12, 13, 12, 13, 15};
        int number = draw(3) != 0 ? often[draw(often.length)] : draw(22);
        if (draw(200) == 0) {
            number = draw(256);
        }
        if (!" 1 3 4 5 6 11 12 13 14 16 17 18 20 ".contains(" " + number + " ")) {
            return new int[] {number};
        }
        int x = number >= 11 && number <= 13 ? drawJump() : draw(4);
        return new int[] {number, draw(30) == 0 ? draw(10) : x};
    }

    /** Code that make can do: instructions are put over 0s, and stay if they make no fault. */
    private void growCode() {
        boolean full = draw(5) == 0;
        int[] code = new int[full ? 48 : 8 + draw(41)];
        code[code.length - 1] = 21;
        code[code.length - 2] = 2;
        if (full) {
            fillWithJumps(code);
        }
        for (int k = 0; k < 80; k++) {
            int[] tried = code.clone();
            int place = draw(code.length - 3);
            for (int i = draw(2); i >= 0; i--) {
                int[] bytes = draw(3) == 0 ? drawWays() : drawInstruction();
                int room = Math.min(bytes.length, tried.length - place);
                System.arraycopy(bytes, 0, tried, place, room);
                place += room;
            }
            if (isFine(tried)) {
                code = tried;
            }
        }
        if (draw(4) == 0) {
            code[draw(code.length)] = draw(22);
        }
        Due.is("clear", typer().clear(), model.clear());
        for (int i = 0; i < code.length; i += 8) {
            int n = Math.min(8, code.length - i);
            appendCode(Due.packed(code, i, n), n);
        }
    }

    /** Types on the stack, and so many jumps that the table may be too long. */
    private void fillWithJumps(int[] code) {
        int n = 0;
        for (int k = 2 + draw(3); k > 0; k--) {
            code[n++] = 14;
            code[n++] = draw(8);
        }
        for (; n < code.length - 6; n += 4) {
            System.arraycopy(new int[] {1, 0, 12, 2}, 0, code, n, 4);
        }
    }

    /** Ways that part and meet, on one of which a local or the stack may change. */
    private int[] drawWays() {
        int x = draw(4);
        switch (draw(6)) {
            case 0: return new int[] {1, 0, 12, 2};
            case 1: return new int[] {1, 0, 12, 5, 2, 6, x};
            case 2: return new int[] {1, 0, 12, 6, 1, 0, 4, x};
            case 3: return new int[] {1, 0, 12, 6, 2, 0, 11, 4, 14, x, 8};
            case 4: return drawWipe(x);
            default: return new int[] {1, 0, 12, 254 - draw(20)};
        }
    }

    /** A way on which some locals from x down become new ones, so that all are TOP behind it. */
    private int[] drawWipe(int x) {
        int many = 1 + draw(x + 1);
        int[] code = new int[4 + 4 * many];
        System.arraycopy(new int[] {1, 0, 12, 2 + 4 * many}, 0, code, 0, 4);
        for (int i = 0; i < many; i++) {
            System.arraycopy(new int[] {14, i, 6, x - i}, 0, code, 4 + 4 * i, 4);
        }
        return code;
    }

    private boolean isFine(int[] code) {
        probe.clear();
        for (int value : code) {
            probe.code(value, 1);
        }
        try {
            return probe.make() > 0;
        } catch (IllegalStateException e) {
            return true;
        }
    }

    private int drawJump() {
        return draw(3) == 0 ? 254 - draw(9) : draw(9) == 0 ? draw(256) : 2 + draw(6);
    }

    private void appendCode(long bytes, int n) {
        Due.is("code", typer().code(bytes, n), model.code(bytes, n));
    }

    private void changeTable() {
        int kind = draw(12);
        if (kind < 4) {
            return;
        }
        int[] bytes = modelTable();
        Due.is("table", typer().table(0, 0), model.table(0, 0));
        if (kind < 7) {
            drawTable();
            return;
        }
        if (bytes.length > 0 && draw(2) == 0) {
            bytes[draw(bytes.length)] = drawByte();
        }
        for (int i = 0; i < bytes.length; i += 8) {
            int n = Math.min(8, bytes.length - i);
            appendTable(Due.packed(bytes, i, n), n);
        }
        if (kind == 11) {
            appendTable(random.nextLong(), draw(10));
        }
    }

    private int[] modelTable() {
        int[] bytes = new int[120];
        int n = 0;
        while (n < 120 && model.tableAt(n) >= 0) {
            bytes[n] = model.tableAt(n);
            n++;
        }
        return Arrays.copyOf(bytes, n);
    }

    private void appendTable(long bytes, int n) {
        Due.is("table", typer().table(bytes, n), model.table(bytes, n));
    }

    private int drawByte() {
        int kind = draw(4);
        return kind == 0 ? draw(256) : kind == 1 ? 247 + draw(9) : kind == 2 ? 60 + draw(12) : draw(5);
    }

    /** A table that is mostly not malformed. */
    private void drawTable() {
        int frames = draw(5);
        put(frames);
        for (int i = 0; i < frames; i++) {
            int tag = draw(2) == 0 ? draw(2) * 64 + draw(10) : 247 + draw(9);
            put(tag);
            if (tag >= 247) {
                put(draw(10));
            }
            if (tag >= 64 && tag <= 247) {
                putType();
            } else if (tag >= 252 && tag < 255) {
                putTypes(tag - 251);
            } else if (tag == 255) {
                int n = draw(5);
                put(n);
                putTypes(n);
                n = draw(6);
                put(n);
                putTypes(n);
            }
        }
    }

    private void putTypes(int n) {
        for (int i = 0; i < n; i++) {
            putType();
        }
    }

    private void putType() {
        int kind = draw(5);
        if (kind < 3) {
            put(kind);
        } else {
            put(4 + kind);
            put(kind == 3 ? draw(8) : draw(20));
        }
    }

    private void put(int value) {
        appendTable(value, 1);
    }

    // An exception of the object and one of the model are told by the same number.

    private int objectsCheck() {
        try {
            return typer().check();
        } catch (IllegalArgumentException e) {
            return MALFORMED;
        }
    }

    private int modelsCheck() {
        try {
            return model.check();
        } catch (IllegalArgumentException e) {
            return MALFORMED;
        }
    }

    private int objectsMake() {
        try {
            return typer().make();
        } catch (IllegalStateException e) {
            return TOO_LONG;
        }
    }

    private int modelsMake() {
        try {
            return model.make();
        } catch (IllegalStateException e) {
            return TOO_LONG;
        }
    }

    private int objectsFrames() {
        try {
            return typer().frames();
        } catch (IllegalArgumentException e) {
            return MALFORMED;
        }
    }

    private int modelsFrames() {
        try {
            return model.frames();
        } catch (IllegalArgumentException e) {
            return MALFORMED;
        }
    }

    private int objectsFrame(int i, int what) {
        try {
            return typer().frame(i, what);
        } catch (IllegalArgumentException e) {
            return MALFORMED;
        }
    }

    private int modelsFrame(int i, int what) {
        try {
            return model.frame(i, what);
        } catch (IllegalArgumentException e) {
            return MALFORMED;
        }
    }

    private void compareCheck(String what) {
        int got = objectsCheck();
        int want = modelsCheck();
        Due.is(what + ": check", got, want);
        seen.merge(want == MALFORMED ? "malformed" : "check " + want / 100, 1, Integer::sum);
    }

    private void compareMake(String what) {
        int got = objectsMake();
        int want = modelsMake();
        Due.is(what + ": make", got, want);
        boolean made = want > 0 && want != TOO_LONG;
        seen.merge(want == TOO_LONG ? "too long" : "make " + (made ? 0 : -want / 100), 1, Integer::sum);
        if (made) {
            Due.is(what + ": what is made is right", objectsCheck(), 0);
            for (int i = 1; i < want; i++) {
                seen.merge("tag " + model.tableAt(i), 1, Integer::sum);
            }
        }
        int size = modelTable().length;
        for (int i = 0; i <= size; i++) {
            Due.is(what + ": tableAt(" + i + ")", typer().tableAt(i), model.tableAt(i));
        }
    }

    /** Of some frames, as a table can have more than there are calls for. */
    private void compareFrames(String what) {
        int many = modelsFrames();
        Due.is(what + ": frames", objectsFrames(), many);
        for (int k = 0; k < 12; k++) {
            int i = many == MALFORMED ? draw(3) - 1 : draw(many + 2) - 1;
            int which = draw(13) - 1;
            String call = what + ": frame(" + i + ", " + which + ")";
            Due.is(call, objectsFrame(i, which), modelsFrame(i, which));
        }
    }
}
