import java.util.ArrayList;
import java.util.Arrays;
import java.util.List;
import java.util.TreeMap;
import java.util.TreeSet;

/** The document written down a second time, plainly and apart from the program, to compare with. */
final class Model {
    /** What ends a call with a fault. */
    private static final class Fault extends RuntimeException {
        private static final long serialVersionUID = 1L;
        final int number;
        final int place;

        Fault(int number, int place) {
            this.number = number;
            this.place = place;
        }

        int answer() {
            return 100 * number + place;
        }
    }

    /** Locals and a stack; told counts the locals that a frame tells. */
    private static final class Shape {
        int told;
        final int[] locals = new int[4];
        final List<Integer> stack = new ArrayList<>();

        Shape copy() {
            Shape s = new Shape();
            s.told = told;
            System.arraycopy(locals, 0, s.locals, 0, 4);
            s.stack.addAll(stack);
            return s;
        }

        boolean isLike(Shape other) {
            return Arrays.equals(locals, other.locals) && stack.equals(other.stack);
        }
    }

    private static final String[] TAKES = {
        "", "", "", "", "I", "", "r", "II", "*", "*", "**", "", "I", "o", "", "n", "c", "cf", "R", "M",
        "o", "o"};
    private static final String WITH_X = "1 3 4 5 6 11 12 13 14 16 17 18 20 ";

    private final int[] parents = new int[8];
    private final int[] fieldClass = new int[6];
    private final int[] fieldType = {1, 1, 1, 1, 1, 1};
    private final List<List<Integer>> routineTakes = new ArrayList<>();
    private final int[] routineGives = new int[6];
    private List<Integer> methodTakes = List.of();
    private int methodGives;
    private List<Integer> code = new ArrayList<>();
    private List<Integer> table = new ArrayList<>(List.of(0));

    Model() {
        for (int r = 0; r < 6; r++) {
            routineTakes.add(List.of());
        }
    }

    // ---- the world

    boolean parent(int c, int parent) {
        if (c >= 1 && c <= 7 && parent >= 0 && parent <= c - 1) {
            parents[c] = parent;
            return true;
        }
        return false;
    }

    private static boolean known(int type) {
        return type == 1 || (type >= 16 && type <= 23);
    }

    boolean field(int f, int c, int type) {
        if (f >= 0 && f <= 5 && c >= 0 && c <= 7 && known(type)) {
            fieldClass[f] = c;
            fieldType[f] = type;
            return true;
        }
        return false;
    }

    /** The types before the first NONE, or null if the row or what is given is wrong. */
    private static List<Integer> taken(int gives, int... row) {
        List<Integer> list = new ArrayList<>();
        boolean ended = false;
        for (int type : row) {
            if (type == -1) {
                ended = true;
            } else if (ended || !known(type)) {
                return null;
            } else {
                list.add(type);
            }
        }
        return gives == 0 || known(gives) ? list : null;
    }

    boolean routine(int r, int a, int b, int c, int gives) {
        List<Integer> list = taken(gives, a, b, c);
        if (r < 0 || r > 5 || list == null) {
            return false;
        }
        routineTakes.set(r, list);
        routineGives[r] = gives;
        return true;
    }

    boolean method(int a, int b, int c, int d, int gives) {
        List<Integer> list = taken(gives, a, b, c, d);
        if (list == null) {
            return false;
        }
        methodTakes = list;
        methodGives = gives;
        return true;
    }

    // ---- the rows

    private static int append(List<Integer> row, long bytes, int n, int most) {
        if (n < 1 || n > 8 || row.size() + n > most) {
            return -1;
        }
        String hex = String.format("%016x", bytes);
        for (int i = 8 - n; i < 8; i++) {
            row.add(Integer.parseInt(hex.substring(2 * i, 2 * i + 2), 16));
        }
        return row.size();
    }

    int code(long bytes, int n) {
        return append(code, bytes, n, 48);
    }

    int clear() {
        int had = code.size();
        code = new ArrayList<>();
        return had;
    }

    int table(long bytes, int n) {
        if (n == 0) {
            table = new ArrayList<>();
            return 0;
        }
        return append(table, bytes, n, 120);
    }

    int tableAt(int i) {
        return i >= 0 && i < table.size() ? table.get(i) : -1;
    }

    // ---- types

    private List<Integer> above(int c) {
        List<Integer> line = new ArrayList<>();
        line.add(c);
        while (c != 0) {
            c = parents[c];
            line.add(c);
        }
        return line;
    }

    private static boolean object(int type) {
        return type >= 16 && type <= 23;
    }

    private boolean fits(int a, int b) {
        return b == 0 || a == b || (a == 2 && object(b))
                || (object(a) && object(b) && above(a - 16).contains(b - 16));
    }

    private int meet(int a, int b) {
        if (a == b) {
            return a;
        }
        if (object(a) && object(b)) {
            List<Integer> line = above(a - 16);
            line.retainAll(above(b - 16));
            return 16 + line.get(0);
        }
        if (a == 2 && object(b) || b == 2 && object(a)) {
            return Math.max(a, b);
        }
        return 0;
    }

    private boolean fits(Shape a, Shape b) {
        boolean all = a.stack.size() == b.stack.size();
        for (int i = 0; i < 4; i++) {
            all = all && fits(a.locals[i], b.locals[i]);
        }
        for (int i = 0; all && i < a.stack.size(); i++) {
            all = fits(a.stack.get(i), b.stack.get(i));
        }
        return all;
    }

    private Shape entry() {
        Shape s = new Shape();
        for (int type : methodTakes) {
            s.locals[s.told++] = type;
        }
        return s;
    }

    // ---- the table

    private static void need(boolean holds) {
        if (!holds) {
            throw new IllegalArgumentException();
        }
    }

    private static int pull(List<Integer> row) {
        need(!row.isEmpty());
        return row.remove(0);
    }

    private static int pullType(List<Integer> row) {
        int kind = pull(row);
        need(kind <= 2 || kind == 7 || kind == 8);
        if (kind <= 2) {
            return kind;
        }
        int which = pull(row);
        need(which <= (kind == 7 ? 7 : 47));
        return (kind == 7 ? 16 : 64) + which;
    }

    private TreeMap<Integer, Shape> unpack() {
        List<Integer> row = new ArrayList<>(table);
        TreeMap<Integer, Shape> all = new TreeMap<>();
        Shape s = entry();
        int many = pull(row);
        for (int i = 0; i < many; i++) {
            int tag = pull(row);
            need(tag < 128 || tag > 246);
            int delta = tag < 64 ? tag : tag < 128 ? tag - 64 : pull(row);
            s = next(s, tag, row);
            int place = all.isEmpty() ? delta : all.lastKey() + delta + 1;
            need(place <= 47);
            all.put(place, s);
        }
        need(row.isEmpty());
        return all;
    }

    private static Shape next(Shape before, int tag, List<Integer> row) {
        List<Integer> locals = new ArrayList<>();
        for (int i = 0; i < before.told; i++) {
            locals.add(before.locals[i]);
        }
        Shape s = new Shape();
        if (tag == 247 || (tag >= 64 && tag < 128)) {
            s.stack.add(pullType(row));
        }
        if (tag == 255) {
            locals.clear();
            int n = pull(row);
            for (int i = 0; i < n; i++) {
                locals.add(pullType(row));
            }
            n = pull(row);
            for (int i = 0; i < n; i++) {
                s.stack.add(pullType(row));
            }
        } else if (tag >= 252) {
            for (int i = 251; i < tag; i++) {
                locals.add(pullType(row));
            }
        } else if (tag >= 248) {
            for (int i = tag; i < 251; i++) {
                need(!locals.isEmpty());
                locals.remove(locals.size() - 1);
            }
        }
        need(locals.size() <= 4 && s.stack.size() <= 5);
        for (int type : locals) {
            s.locals[s.told++] = type;
        }
        return s;
    }

    int frames() {
        return unpack().size();
    }

    int frame(int i, int what) {
        TreeMap<Integer, Shape> all = unpack();
        if (i < 0 || i >= all.size() || what < 0 || what > 10) {
            return -1;
        }
        int place = new ArrayList<>(all.keySet()).get(i);
        Shape s = all.get(place);
        List<Integer> told = new ArrayList<>();
        told.add(place);
        for (int type : s.locals) {
            told.add(type);
        }
        told.add(s.stack.size());
        told.addAll(s.stack);
        return what < told.size() ? told.get(what) : -1;
    }

    // ---- instructions

    private int at(int place) {
        return place >= 0 && place < code.size() ? code.get(place) : -1;
    }

    private static boolean withX(int number) {
        return (" " + WITH_X).contains(" " + number + " ");
    }

    private boolean whole(int place) {
        int number = at(place);
        return number >= 0 && number <= 21 && (!withX(number) || at(place + 1) >= 0);
    }

    private int after(int place) {
        return place + (withX(at(place)) ? 2 : 1);
    }

    private TreeSet<Integer> beginnings() {
        TreeSet<Integer> all = new TreeSet<>();
        int place = 0;
        while (place < code.size()) {
            all.add(place);
            place = whole(place) ? after(place) : code.size();
        }
        return all;
    }

    private boolean ends(int place) {
        return List.of(11, 19, 21).contains(at(place));
    }

    private boolean jumps(int place) {
        return List.of(11, 12, 13).contains(at(place));
    }

    private int aim(int place) {
        int x = at(place + 1);
        return place + (x > 127 ? x - 256 : x);
    }

    /** What the letters of TAKES stand for; -2 is NULL, an object or new; -3 is new. */
    private List<Integer> wants(int number, int x) {
        List<Integer> list = new ArrayList<>();
        for (char letter : TAKES[number].toCharArray()) {
            switch (letter) {
                case 'I': list.add(1); break;
                case 'r': list.add(-2); break;
                case 'n': list.add(-3); break;
                case '*': list.add(0); break;
                case 'o': list.add(-4); break;
                case 'c': list.add(16 + fieldClass[x]); break;
                case 'f': list.add(fieldType[x]); break;
                case 'R': list.addAll(routineTakes.get(x)); break;
                default:
                    if (methodGives != 0) {
                        list.add(methodGives);
                    }
            }
        }
        return list;
    }

    private boolean suits(int type, int want) {
        boolean nullOrObject = type == 2 || object(type);
        switch (want) {
            case -2: return nullOrObject || type >= 64;
            case -3: return type >= 64;
            case -4: return nullOrObject;
            default: return fits(type, want);
        }
    }

    private static boolean xStands(int number, int x) {
        switch (number) {
            case 3: case 4: case 5: case 6: return x <= 3;
            case 14: case 20: return x <= 7;
            case 16: case 17: case 18: return x <= 5;
            default: return true;
        }
    }

    private void execute(int p, Shape s) {
        int number = at(p);
        int x = at(p + 1);
        if (!xStands(number, x)) {
            throw new Fault(4, p);
        }
        List<Integer> want = wants(number, x);
        int below = s.stack.size() - want.size();
        if (below < 0) {
            throw new Fault(5, p);
        }
        List<Integer> top = s.stack.subList(below, s.stack.size());
        List<Integer> had = new ArrayList<>(top);
        for (int i = 0; i < had.size(); i++) {
            if (!suits(had.get(i), want.get(i))) {
                throw new Fault(6, p);
            }
        }
        if (number == 3 && s.locals[x] != 1 || number == 5 && !suits(s.locals[x], -2)
                || number == 14 && s.stack.contains(64 + p)) {
            throw new Fault(6, p);
        }
        top.clear();
        s.stack.addAll(given(p, s, had));
        if (s.stack.size() > 5) {
            throw new Fault(7, p);
        }
        sideEffects(p, s, had);
    }

    private List<Integer> given(int p, Shape s, List<Integer> had) {
        int x = at(p + 1);
        switch (at(p)) {
            case 1: case 3: case 7: return List.of(1);
            case 2: return List.of(2);
            case 5: return List.of(s.locals[x]);
            case 9: return List.of(had.get(0), had.get(0));
            case 10: return List.of(had.get(1), had.get(0));
            case 14: return List.of(64 + p);
            case 16: return List.of(fieldType[x]);
            case 18: return routineGives[x] == 0 ? List.of() : List.of(routineGives[x]);
            case 20: return List.of(16 + x);
            default: return List.of();
        }
    }

    private void sideEffects(int p, Shape s, List<Integer> had) {
        int number = at(p);
        if (number == 4 || number == 6) {
            s.locals[at(p + 1)] = had.get(0);
        }
        for (int i = 0; i < 4; i++) {
            if (number == 14 && s.locals[i] == 64 + p) {
                s.locals[i] = 0;
            }
            if (number == 15 && s.locals[i] == had.get(0)) {
                s.locals[i] = 16 + at(had.get(0) - 64 + 1);
            }
        }
        if (number == 15) {
            s.stack.replaceAll(type -> type.equals(had.get(0)) ? 16 + at(type - 64 + 1) : type);
        }
    }

    // ---- checking

    int check() {
        TreeMap<Integer, Shape> frames = unpack();
        try {
            checkAll(frames);
            return 0;
        } catch (Fault fault) {
            return fault.answer();
        }
    }

    private void checkAll(TreeMap<Integer, Shape> frames) {
        Shape now = entry();
        int place = 0;
        while (place < code.size()) {
            if (!whole(place)) {
                throw new Fault(1, place);
            }
            Shape frame = frames.get(place);
            if (now == null && frame == null) {
                throw new Fault(2, place);
            }
            if (frame != null) {
                if (now != null && !fits(now, frame)) {
                    throw new Fault(3, place);
                }
                now = frame.copy();
                checkNews(place, frame);
            }
            execute(place, now);
            if (jumps(place)) {
                Shape there = frames.get(aim(place));
                if (there == null) {
                    throw new Fault(8, place);
                }
                if (!fits(now, there)) {
                    throw new Fault(9, place);
                }
            }
            now = ends(place) ? null : now;
            place = after(place);
        }
        if (now != null) {
            throw new Fault(1, place);
        }
        for (int at : frames.keySet()) {
            if (!beginnings().contains(at)) {
                throw new Fault(10, at);
            }
        }
    }

    private void checkNews(int place, Shape frame) {
        List<Integer> all = new ArrayList<>(frame.stack);
        for (int type : frame.locals) {
            all.add(type);
        }
        for (int type : all) {
            int q = type - 64;
            if (q >= 0 && !(beginnings().contains(q) && at(q) == 14 && at(q + 1) >= 0 && at(q + 1) <= 7)) {
                throw new Fault(4, place);
            }
        }
    }

    // ---- making

    int make() {
        try {
            List<Integer> made = pack(find());
            if (made.size() > 120) {
                throw new IllegalStateException();
            }
            table = made;
            return made.size();
        } catch (Fault fault) {
            return -fault.answer();
        }
    }

    private TreeMap<Integer, Shape> find() {
        TreeMap<Integer, Shape> come = new TreeMap<>();
        TreeSet<Integer> work = new TreeSet<>();
        come.put(0, entry());
        work.add(0);
        while (!work.isEmpty()) {
            int place = work.pollFirst();
            if (!whole(place)) {
                throw new Fault(1, place);
            }
            Shape s = come.get(place).copy();
            execute(place, s);
            if (jumps(place) && !beginnings().contains(aim(place))) {
                throw new Fault(8, place);
            }
            if (!ends(place)) {
                bring(s, after(place), come, work);
            }
            if (jumps(place)) {
                bring(s, aim(place), come, work);
            }
        }
        for (int place : beginnings()) {
            if (!come.containsKey(place)) {
                throw new Fault(2, place);
            }
        }
        return come;
    }

    private void bring(Shape s, int place, TreeMap<Integer, Shape> come, TreeSet<Integer> work) {
        Shape old = come.get(place);
        if (old == null) {
            come.put(place, s.copy());
            work.add(place);
            return;
        }
        if (old.stack.size() != s.stack.size()) {
            throw new Fault(3, place);
        }
        Shape met = s.copy();
        for (int i = 0; i < 4; i++) {
            met.locals[i] = meet(old.locals[i], s.locals[i]);
        }
        for (int i = 0; i < s.stack.size(); i++) {
            met.stack.set(i, meet(old.stack.get(i), s.stack.get(i)));
        }
        if (!met.isLike(old)) {
            come.put(place, met);
            work.add(place);
        }
    }

    private List<Integer> pack(TreeMap<Integer, Shape> come) {
        TreeSet<Integer> places = new TreeSet<>();
        for (int place : beginnings()) {
            if (jumps(place)) {
                places.add(aim(place));
            }
            if (ends(place) && beginnings().contains(after(place))) {
                places.add(after(place));
            }
        }
        List<Integer> row = new ArrayList<>(List.of(places.size()));
        List<Integer> before = methodTakes;
        int last = -1;
        for (int place : places) {
            Shape s = come.get(place);
            List<Integer> locals = new ArrayList<>();
            for (int i = 0; i < 4; i++) {
                locals.add(s.locals[i]);
            }
            while (!locals.isEmpty() && locals.get(locals.size() - 1) == 0) {
                locals.remove(locals.size() - 1);
            }
            row.addAll(form(place - last - 1, before, locals, s.stack));
            before = locals;
            last = place;
        }
        return row;
    }

    private static List<Integer> form(int delta, List<Integer> before, List<Integer> locals,
            List<Integer> stack) {
        List<Integer> row = new ArrayList<>();
        if (before.equals(locals) && stack.isEmpty()) {
            row.add(delta);
            return row;
        }
        if (before.equals(locals) && stack.size() == 1) {
            row.add(64 + delta);
            putAll(row, stack);
            return row;
        }
        for (int k = 3; k >= 1 && stack.isEmpty(); k--) {
            if (before.size() >= k && before.subList(0, before.size() - k).equals(locals)) {
                return new ArrayList<>(List.of(251 - k, delta));
            }
        }
        for (int k = 1; k <= 3 && stack.isEmpty(); k++) {
            if (locals.size() >= k && locals.subList(0, locals.size() - k).equals(before)) {
                row.addAll(List.of(251 + k, delta));
                putAll(row, locals.subList(locals.size() - k, locals.size()));
                return row;
            }
        }
        row.addAll(List.of(255, delta, locals.size()));
        putAll(row, locals);
        row.add(stack.size());
        putAll(row, stack);
        return row;
    }

    private static void putAll(List<Integer> row, List<Integer> types) {
        for (int type : types) {
            if (type >= 64) {
                row.add(8);
                row.add(type - 64);
            } else if (type >= 16) {
                row.add(7);
                row.add(type - 16);
            } else {
                row.add(type);
            }
        }
    }
}
