import java.util.Arrays;

/**
 * Types of a small machine's code: frames in a packed table say what lies in the locals and on the
 * stack at the places that are jumped to; a checker goes over the code once and sees whether all
 * fits them; a maker finds frames for code that has none, and packs them.
 */
public final class FrameTyper {
    public static final int NONE = -1;

    private static final int TOP = 0;
    private static final int INT = 1;
    private static final int NULL = 2;
    private static final int OBJECT = 16;
    private static final int NEW = 64;

    private static final int CLASSES = 8;
    private static final int FIELDS = 6;
    private static final int ROUTINES = 6;
    private static final int LOCALS = 4;
    private static final int STACK = 5;
    private static final int SLOTS = LOCALS + STACK;
    private static final int MOST_TAKEN = 4;
    private static final int CODE_MOST = 48;
    private static final int TABLE_MOST = 120;

    private static final int NOT_WHOLE = 1;
    private static final int NOTHING_CAME = 2;
    private static final int FRAME_MISFIT = 3;
    private static final int NO_SUCH_THING = 4;
    private static final int MISSING = 5;
    private static final int MISFIT = 6;
    private static final int TOO_HIGH = 7;
    private static final int NO_PLACE_TO_GO = 8;
    private static final int GOING_MISFIT = 9;
    private static final int STRAY_FRAME = 10;

    private static final int PUSH_INT = 1;
    private static final int PUSH_NULL = 2;
    private static final int LOAD_INT = 3;
    private static final int STORE_INT = 4;
    private static final int LOAD_REFERENCE = 5;
    private static final int STORE_REFERENCE = 6;
    private static final int ADD = 7;
    private static final int DROP = 8;
    private static final int TWICE = 9;
    private static final int SWAP = 10;
    private static final int GO = 11;
    private static final int GO_BY_INT = 12;
    private static final int GO_BY_OBJECT = 13;
    private static final int CREATE = 14;
    private static final int FINISH = 15;
    private static final int READ_FIELD = 16;
    private static final int WRITE_FIELD = 17;
    private static final int CALL = 18;
    private static final int END = 19;
    private static final int CAST = 20;
    private static final int THROW = 21;
    private static final int INSTRUCTIONS = 22;

    private static final int TYPE_OBJECT = 7;
    private static final int TYPE_NEW = 8;
    private static final int TAG_ONE = 64;
    private static final int TAG_UNUSED = 128;
    private static final int TAG_ONE_FAR = 247;
    private static final int TAG_SAME_FAR = 251;
    private static final int TAG_FULL = 255;
    private static final int CHANGE_MOST = 3;

    private final World world;
    private final Code program;
    private final Bytes packed;
    private final TableReader reader;
    private final Checker checker;
    private final Maker maker;

    public FrameTyper() {
        world = new World();
        program = new Code();
        packed = new Bytes(TABLE_MOST);
        packed.put(0);
        reader = new TableReader(world, packed);
        Stepper stepper = new Stepper(world, program);
        checker = new Checker(world, program, stepper, reader.frames);
        maker = new Maker(world, program, stepper);
    }

    public boolean parent(int c, int parent) {
        return world.setParent(c, parent);
    }

    public boolean field(int f, int c, int type) {
        return world.setField(f, c, type);
    }

    public boolean routine(int r, int a, int b, int c, int gives) {
        if (r < 0 || r >= ROUTINES) {
            return false;
        }
        return world.routines[r].set(a, b, c, NONE, gives);
    }

    public boolean method(int a, int b, int c, int d, int gives) {
        return world.method.set(a, b, c, d, gives);
    }

    public int code(long bytes, int n) {
        return program.bytes.append(bytes, n);
    }

    public int clear() {
        int had = program.bytes.size;
        program.bytes.empty();
        return had;
    }

    public int table(long bytes, int n) {
        if (n == 0) {
            packed.empty();
            return 0;
        }
        return packed.append(bytes, n);
    }

    public int tableAt(int i) {
        return packed.get(i);
    }

    public int frames() throws IllegalArgumentException {
        if (!reader.read()) {
            throw new IllegalArgumentException("the table is malformed");
        }
        return reader.count;
    }

    public int frame(int i, int what) throws IllegalArgumentException {
        if (!reader.read()) {
            throw new IllegalArgumentException("the table is malformed");
        }
        return reader.tell(i, what);
    }

    public int check() throws IllegalArgumentException {
        if (!reader.read()) {
            throw new IllegalArgumentException("the table is malformed");
        }
        return checker.firstFault();
    }

    public int make() throws IllegalStateException {
        int fault = maker.firstFault();
        if (fault != 0) {
            return -fault;
        }
        Bytes made = maker.pack();
        if (made.size > TABLE_MOST) {
            throw new IllegalStateException("the table would be too long");
        }
        packed.become(made);
        return packed.size;
    }

    /** What a routine or the method takes and gives. */
    private static final class Signature {
        final int[] takes = new int[MOST_TAKEN];
        int count;
        int gives;

        Signature() {
        }

        boolean set(int a, int b, int c, int d, int given) {
            if (given != 0 && !World.isKnown(given)) {
                return false;
            }
            if (!World.isKnownOrNone(a) || !World.isKnownOrNone(b)
                    || !World.isKnownOrNone(c) || !World.isKnownOrNone(d)) {
                return false;
            }
            if (a == NONE && b != NONE || b == NONE && c != NONE || c == NONE && d != NONE) {
                return false;
            }
            takes[0] = a;
            takes[1] = b;
            takes[2] = c;
            takes[3] = d;
            count = a == NONE ? 0 : b == NONE ? 1 : c == NONE ? 2 : d == NONE ? 3 : MOST_TAKEN;
            gives = given;
            return true;
        }
    }

    /** The classes, fields, routines and the method, and how types stand to one another. */
    private static final class World {
        final int[] parents = new int[CLASSES];
        final int[] fieldClasses = new int[FIELDS];
        final int[] fieldTypes = new int[FIELDS];
        final Signature[] routines = new Signature[ROUTINES];
        final Signature method = new Signature();

        World() {
            Arrays.fill(fieldTypes, INT);
            for (int r = 0; r < ROUTINES; r++) {
                routines[r] = new Signature();
            }
        }

        static boolean isClass(int c) {
            return c >= 0 && c < CLASSES;
        }

        static boolean isObject(int type) {
            return type >= OBJECT && type < OBJECT + CLASSES;
        }

        static boolean isNew(int type) {
            return type >= NEW && type < NEW + CODE_MOST;
        }

        static boolean isReference(int type) {
            return type == NULL || isObject(type) || isNew(type);
        }

        static boolean isKnown(int type) {
            return type == INT || isObject(type);
        }

        static boolean isKnownOrNone(int type) {
            return type == NONE || isKnown(type);
        }

        boolean setParent(int c, int parent) {
            if (c < 1 || c >= CLASSES || parent < 0 || parent >= c) {
                return false;
            }
            parents[c] = parent;
            return true;
        }

        boolean setField(int f, int c, int type) {
            if (f < 0 || f >= FIELDS || !isClass(c) || !isKnown(type)) {
                return false;
            }
            fieldClasses[f] = c;
            fieldTypes[f] = type;
            return true;
        }

        /** The lowest class that both are below. */
        int sharedClass(int a, int b) {
            // A parent's number is less, so the greater of two different classes cannot be the
            // shared one; each round lessens one of them, down to 0 at the worst.
            for (int round = 0; round < 2 * CLASSES && a != b; round++) {
                if (a > b) {
                    a = parents[a];
                } else {
                    b = parents[b];
                }
            }
            return a;
        }

        boolean fits(int type, int wanted) {
            if (wanted == TOP || type == wanted) {
                return true;
            }
            if (!isObject(wanted)) {
                return false;
            }
            if (type == NULL) {
                return true;
            }
            return isObject(type) && sharedClass(type - OBJECT, wanted - OBJECT) == wanted - OBJECT;
        }

        int meet(int a, int b) {
            if (a == b) {
                return a;
            }
            if (a == NULL && isObject(b)) {
                return b;
            }
            if (b == NULL && isObject(a)) {
                return a;
            }
            if (isObject(a) && isObject(b)) {
                return OBJECT + sharedClass(a - OBJECT, b - OBJECT);
            }
            return TOP;
        }
    }

    /** A row of bytes up to a bound. */
    private static final class Bytes {
        private final int[] row;
        int size;

        Bytes(int most) {
            row = new int[most];
        }

        void empty() {
            size = 0;
        }

        int get(int i) {
            return i >= 0 && i < size && i < row.length ? row[i] : NONE;
        }

        int append(long bytes, int n) {
            if (n < 1 || n > 8 || size + n > row.length) {
                return NONE;
            }
            for (int k = n - 1; k >= 0; k--) {
                put((int) (bytes >>> 8 * k) & 255);
            }
            return size;
        }

        /** Bytes beyond the bound are counted but not kept, so that the size tells of them. */
        void put(int value) {
            if (size < row.length) {
                row[size] = value;
            }
            size++;
        }

        void become(Bytes other) {
            empty();
            for (int i = 0; i < other.size; i++) {
                put(other.get(i));
            }
        }
    }

    /** The code and its instructions. */
    private static final class Code {
        /** How many x an instruction can have; 0 if it is one byte alone. */
        private static final int[] X_BOUNDS = {
            0, 256, 0, LOCALS, LOCALS, LOCALS, LOCALS, 0, 0, 0, 0,
            256, 256, 256, CLASSES, 0, FIELDS, FIELDS, ROUTINES, 0, CLASSES, 0};

        final Bytes bytes = new Bytes(CODE_MOST);
        private final boolean[] begins = new boolean[CODE_MOST];

        Code() {
        }

        int size() {
            return bytes.size;
        }

        int number(int place) {
            return bytes.get(place);
        }

        int x(int place) {
            return bytes.get(place + 1);
        }

        private int xBound(int place) {
            int number = bytes.get(place);
            return number >= 0 && number < INSTRUCTIONS ? X_BOUNDS[number] : 0;
        }

        int behind(int place) {
            return xBound(place) == 0 ? place + 1 : place + 2;
        }

        boolean isWhole(int place) {
            int number = number(place);
            return number >= 0 && number < INSTRUCTIONS && behind(place) <= size();
        }

        boolean isXRight(int place) {
            return xBound(place) == 0 || x(place) < xBound(place);
        }

        /** To be called before begins and isNewOfClass, when the code may have changed. */
        void findBegins() {
            int next = 0;
            for (int place = 0; place < CODE_MOST; place++) {
                begins[place] = place == next && place < size();
                if (begins[place] && isWhole(place)) {
                    next = behind(place);
                }
            }
        }

        boolean begins(int place) {
            return place >= 0 && place < CODE_MOST && begins[place];
        }

        boolean isNewOfClass(int place) {
            return begins(place) && bytes.get(place) == CREATE
                    && World.isClass(bytes.get(place + 1));
        }

        boolean goes(int place) {
            int number = number(place);
            return number == GO || number == GO_BY_INT || number == GO_BY_OBJECT;
        }

        boolean goesOn(int place) {
            int number = number(place);
            return number != GO && number != END && number != THROW;
        }

        int target(int place) {
            return place + (byte) x(place);
        }
    }

    /** What lies in the locals, and behind them on the stack from its bottom up. */
    private static final class State {
        final int[] types = new int[SLOTS];
        int height;

        State() {
        }

        void enter(Signature method) {
            Arrays.fill(types, TOP);
            System.arraycopy(method.takes, 0, types, 0, method.count);
            height = 0;
        }

        int fromTop(int depth) {
            return depth < height ? types[LOCALS + height - 1 - depth] : TOP;
        }

        void push(int type) {
            if (height < STACK) {
                types[LOCALS + height] = type;
                height++;
            }
        }

        void drop(int count) {
            height = Math.max(0, height - count);
        }

        boolean stackHas(int type) {
            for (int i = 0; i < height; i++) {
                if (types[LOCALS + i] == type) {
                    return true;
                }
            }
            return false;
        }

        void replace(int old, int by) {
            for (int slot = 0; slot < LOCALS + height; slot++) {
                if (types[slot] == old) {
                    types[slot] = by;
                }
            }
        }
    }

    /** A state or none for each place of the code and the one behind it, in one row for all. */
    private static final class States {
        private final World world;
        private final int[] types = new int[(CODE_MOST + 1) * SLOTS];
        private final int[] heights = new int[CODE_MOST + 1];

        States(World world) {
            this.world = world;
            Arrays.fill(heights, NONE);
        }

        void forgetAll() {
            Arrays.fill(heights, NONE);
        }

        boolean has(int place) {
            return place >= 0 && place <= CODE_MOST && heights[place] != NONE;
        }

        int height(int place) {
            return heights[place];
        }

        int local(int place, int i) {
            return types[place * SLOTS + i];
        }

        int stacked(int place, int i) {
            return types[place * SLOTS + LOCALS + i];
        }

        void store(int place, State state) {
            heights[place] = state.height;
            System.arraycopy(state.types, 0, types, place * SLOTS, SLOTS);
        }

        void load(int place, State state) {
            state.height = heights[place];
            System.arraycopy(types, place * SLOTS, state.types, 0, SLOTS);
        }

        boolean isFitBy(State state, int place) {
            if (state.height != heights[place]) {
                return false;
            }
            for (int slot = 0; slot < LOCALS + state.height; slot++) {
                if (!world.fits(state.types[slot], types[place * SLOTS + slot])) {
                    return false;
                }
            }
            return true;
        }

        /** Lets a state of the same height meet the one at a place: whether that has changed. */
        boolean meet(State state, int place) {
            boolean changed = false;
            for (int slot = 0; slot < LOCALS + heights[place]; slot++) {
                int old = types[place * SLOTS + slot];
                int met = world.meet(old, state.types[slot]);
                types[place * SLOTS + slot] = met;
                changed = changed || met != old;
            }
            return changed;
        }
    }

    /** Does one instruction to the state that is there now. */
    private static final class Stepper {
        private static final int ANY_OBJECT = OBJECT;
        private static final int ANY_REFERENCE = -2;
        private static final int ANY_NEW = -3;
        /** How many types each instruction gives, but for what a routine gives. */
        private static final int[] GIVEN = {
            0, 1, 1, 1, 0, 1, 0, 1, 0, 2, 2, 0, 0, 0, 1, 0, 1, 0, 0, 0, 1, 0};

        final State now = new State();
        private final World world;
        private final Code code;
        private final int[] wanted = new int[MOST_TAKEN];
        private int wantedCount;

        Stepper(World world, Code code) {
            this.world = world;
            this.code = code;
        }

        /** The fault of a whole instruction, of 4 to 7; with 0 it is done. */
        int step(int place) {
            int number = code.number(place);
            int x = code.x(place);
            if (!code.isXRight(place)) {
                return NO_SUCH_THING;
            }
            listWanted(number, x);
            if (now.height < wantedCount) {
                return MISSING;
            }
            if (!wantedFit() || !localFits(number, x) || isNewStacked(number, place)) {
                return MISFIT;
            }
            if (now.height - wantedCount + givenCount(number, x) > STACK) {
                return TOO_HIGH;
            }
            int upper = now.fromTop(0);
            int lower = now.fromTop(1);
            now.drop(wantedCount);
            changeLocals(place, upper);
            give(place, upper, lower);
            return 0;
        }

        private void want(int type) {
            wanted[wantedCount] = type;
            wantedCount++;
        }

        private void listWanted(int number, int x) {
            wantedCount = 0;
            switch (number) {
                case STORE_INT, GO_BY_INT -> want(INT);
                case STORE_REFERENCE -> want(ANY_REFERENCE);
                case ADD -> {
                    want(INT);
                    want(INT);
                }
                case DROP, TWICE -> want(TOP);
                case SWAP -> {
                    want(TOP);
                    want(TOP);
                }
                // All classes are below 0, so that its objects stand for any.
                case GO_BY_OBJECT, CAST, THROW -> want(ANY_OBJECT);
                case FINISH -> want(ANY_NEW);
                case READ_FIELD -> want(OBJECT + world.fieldClasses[x]);
                case WRITE_FIELD -> {
                    want(OBJECT + world.fieldClasses[x]);
                    want(world.fieldTypes[x]);
                }
                case CALL -> wantAll(world.routines[x]);
                case END -> wantGiven(world.method);
                default -> { }
            }
        }

        private void wantAll(Signature routine) {
            for (int i = 0; i < routine.count; i++) {
                want(routine.takes[i]);
            }
        }

        private void wantGiven(Signature method) {
            if (method.gives != 0) {
                want(method.gives);
            }
        }

        private boolean wantedFit() {
            for (int i = 0; i < wantedCount; i++) {
                int want = wanted[i];
                int type = now.fromTop(wantedCount - 1 - i);
                boolean fits = want == ANY_REFERENCE ? World.isReference(type)
                        : want == ANY_NEW ? World.isNew(type)
                        : world.fits(type, want);
                if (!fits) {
                    return false;
                }
            }
            return true;
        }

        private boolean localFits(int number, int x) {
            if (number == LOAD_INT) {
                return now.types[x] == INT;
            }
            return number != LOAD_REFERENCE || World.isReference(now.types[x]);
        }

        private boolean isNewStacked(int number, int place) {
            return number == CREATE && now.stackHas(NEW + place);
        }

        private int givenCount(int number, int x) {
            if (number == CALL) {
                return world.routines[x].gives == 0 ? 0 : 1;
            }
            return GIVEN[number];
        }

        private void changeLocals(int place, int upper) {
            switch (code.number(place)) {
                case STORE_INT, STORE_REFERENCE -> now.types[code.x(place)] = upper;
                case CREATE -> now.replace(NEW + place, TOP);
                case FINISH -> now.replace(upper, OBJECT + code.x(upper - NEW));
                default -> { }
            }
        }

        private void give(int place, int upper, int lower) {
            int x = code.x(place);
            switch (code.number(place)) {
                case PUSH_INT, LOAD_INT, ADD -> now.push(INT);
                case PUSH_NULL -> now.push(NULL);
                case LOAD_REFERENCE -> now.push(now.types[x]);
                case TWICE -> {
                    now.push(upper);
                    now.push(upper);
                }
                case SWAP -> {
                    now.push(upper);
                    now.push(lower);
                }
                case CREATE -> now.push(NEW + place);
                case READ_FIELD -> now.push(world.fieldTypes[x]);
                case CALL -> {
                    if (world.routines[x].gives != 0) {
                        now.push(world.routines[x].gives);
                    }
                }
                case CAST -> now.push(OBJECT + x);
                default -> { }
            }
        }
    }

    /** Unpacks the table. */
    private static final class TableReader {
        final States frames;
        int count;
        private final World world;
        private final Bytes table;
        private final int[] places = new int[CODE_MOST];
        private final State last = new State();
        private int lastLocals;
        private int at;
        private boolean malformed;

        TableReader(World world, Bytes table) {
            this.world = world;
            this.table = table;
            frames = new States(world);
        }

        /** False if the table is malformed. */
        boolean read() {
            frames.forgetAll();
            count = 0;
            at = 0;
            malformed = false;
            last.enter(world.method);
            lastLocals = world.method.count;
            int told = next();
            int place = -1;
            for (int i = 0; i < told && !malformed; i++) {
                place = readFrame(place);
            }
            return !malformed && at == table.size;
        }

        int tell(int i, int what) {
            if (i < 0 || i >= count || what < 0 || what > SLOTS + 1) {
                return NONE;
            }
            int place = places[i];
            if (what == 0) {
                return place;
            }
            if (what <= LOCALS) {
                return frames.local(place, what - 1);
            }
            int height = frames.height(place);
            if (what == LOCALS + 1) {
                return height;
            }
            int depth = what - LOCALS - 2;
            return depth < height ? frames.stacked(place, depth) : NONE;
        }

        private int next() {
            int value = table.get(at);
            if (value == NONE) {
                malformed = true;
                return 0;
            }
            at++;
            return value;
        }

        /** The place of the frame, which stands in terms of the one at the place before. */
        private int readFrame(int before) {
            int tag = next();
            if (tag >= TAG_UNUSED && tag < TAG_ONE_FAR) {
                malformed = true;
                return before;
            }
            int delta = tag < TAG_UNUSED ? tag % TAG_ONE : next();
            int place = before + 1 + delta;
            last.height = 0;
            if (tag >= TAG_ONE && tag <= TAG_ONE_FAR) {
                readStack(1);
            } else if (tag == TAG_FULL) {
                keepLocals(0);
                addLocals(next());
                readStack(next());
            } else if (tag > TAG_SAME_FAR) {
                addLocals(tag - TAG_SAME_FAR);
            } else if (tag > TAG_ONE_FAR) {
                keepLocals(lastLocals - (TAG_SAME_FAR - tag));
            }
            if (place >= CODE_MOST || malformed) {
                malformed = true;
                return before;
            }
            frames.store(place, last);
            places[count] = place;
            count++;
            return place;
        }

        private void keepLocals(int kept) {
            if (kept < 0) {
                malformed = true;
                return;
            }
            for (int i = kept; i < LOCALS; i++) {
                last.types[i] = TOP;
            }
            lastLocals = kept;
        }

        private void addLocals(int more) {
            if (lastLocals + more > LOCALS) {
                malformed = true;
                return;
            }
            for (int i = 0; i < more; i++) {
                last.types[lastLocals] = readType();
                lastLocals++;
            }
        }

        private void readStack(int height) {
            if (height > STACK) {
                malformed = true;
                return;
            }
            for (int i = 0; i < height; i++) {
                last.push(readType());
            }
        }

        private int readType() {
            int kind = next();
            if (kind <= NULL) {
                return kind;
            }
            int bound = kind == TYPE_OBJECT ? CLASSES : kind == TYPE_NEW ? CODE_MOST : 0;
            int value = next();
            if (value >= bound) {
                malformed = true;
                return TOP;
            }
            return kind == TYPE_OBJECT ? OBJECT + value : NEW + value;
        }
    }

    /** Packs frames, each in terms of the one before. */
    private static final class TableWriter {
        final Bytes packed = new Bytes(TABLE_MOST);
        private final int[] before = new int[LOCALS];
        private int beforeCount;
        private int beforePlace;

        TableWriter() {
        }

        void begin(Signature method, int frames) {
            System.arraycopy(method.takes, 0, before, 0, LOCALS);
            beforeCount = method.count;
            beforePlace = -1;
            packed.empty();
            packed.put(frames);
        }

        void write(States states, int place) {
            // Less than 64 at any place, so that 247 and 251 are never the first that can tell it.
            int delta = place - beforePlace - 1;
            int count = localCount(states, place);
            int more = count - beforeCount;
            int height = states.height(place);
            boolean shared = sharesLocals(states, place, Math.min(count, beforeCount));
            if (shared && more == 0 && height == 0) {
                packed.put(delta);
            } else if (shared && more == 0 && height == 1) {
                packed.put(TAG_ONE + delta);
                putType(states.stacked(place, 0));
            } else if (shared && height == 0 && Math.abs(more) <= CHANGE_MOST) {
                packed.put(TAG_SAME_FAR + more);
                packed.put(delta);
                putLocals(states, place, beforeCount, count);
            } else {
                putFull(states, place, delta, count);
            }
            remember(states, place, count);
        }

        /** Without those at the end that are TOP. */
        private int localCount(States states, int place) {
            for (int count = LOCALS; count > 0; count--) {
                if (states.local(place, count - 1) != TOP) {
                    return count;
                }
            }
            return 0;
        }

        private boolean sharesLocals(States states, int place, int count) {
            for (int i = 0; i < count; i++) {
                if (states.local(place, i) != before[i]) {
                    return false;
                }
            }
            return true;
        }

        private void putFull(States states, int place, int delta, int count) {
            packed.put(TAG_FULL);
            packed.put(delta);
            packed.put(count);
            putLocals(states, place, 0, count);
            packed.put(states.height(place));
            for (int i = 0; i < states.height(place); i++) {
                putType(states.stacked(place, i));
            }
        }

        private void putLocals(States states, int place, int from, int to) {
            for (int i = from; i < to; i++) {
                putType(states.local(place, i));
            }
        }

        private void putType(int type) {
            if (World.isObject(type)) {
                packed.put(TYPE_OBJECT);
                packed.put(type - OBJECT);
            } else if (World.isNew(type)) {
                packed.put(TYPE_NEW);
                packed.put(type - NEW);
            } else {
                packed.put(type);
            }
        }

        private void remember(States states, int place, int count) {
            for (int i = 0; i < count; i++) {
                before[i] = states.local(place, i);
            }
            beforeCount = count;
            beforePlace = place;
        }
    }

    /** Goes over the code once and sees whether all fits the frames. */
    private static final class Checker {
        private final World world;
        private final Code code;
        private final Stepper stepper;
        private final States frames;

        Checker(World world, Code code, Stepper stepper, States frames) {
            this.world = world;
            this.code = code;
            this.stepper = stepper;
            this.frames = frames;
        }

        /** 100 * fault and the place, or 0. */
        int firstFault() {
            code.findBegins();
            stepper.now.enter(world.method);
            boolean came = true;
            for (int place = 0; place < code.size(); place++) {
                if (code.begins(place)) {
                    int fault = faultAt(place, came);
                    if (fault != 0) {
                        return 100 * fault + place;
                    }
                    came = code.goesOn(place);
                }
            }
            return came ? 100 * NOT_WHOLE + code.size() : strayFrame();
        }

        private int faultAt(int place, boolean came) {
            if (!code.isWhole(place)) {
                return NOT_WHOLE;
            }
            int fault = frames.has(place) ? enterFrame(place, came) : came ? 0 : NOTHING_CAME;
            if (fault == 0) {
                fault = stepper.step(place);
            }
            if (fault == 0 && code.goes(place)) {
                fault = goingFault(code.target(place));
            }
            return fault;
        }

        private int enterFrame(int place, boolean came) {
            if (came && !frames.isFitBy(stepper.now, place)) {
                return FRAME_MISFIT;
            }
            frames.load(place, stepper.now);
            return areNewsRight(stepper.now) ? 0 : NO_SUCH_THING;
        }

        private boolean areNewsRight(State state) {
            for (int slot = 0; slot < LOCALS + state.height; slot++) {
                int type = state.types[slot];
                if (World.isNew(type) && !code.isNewOfClass(type - NEW)) {
                    return false;
                }
            }
            return true;
        }

        private int goingFault(int target) {
            if (!frames.has(target)) {
                return NO_PLACE_TO_GO;
            }
            return frames.isFitBy(stepper.now, target) ? 0 : GOING_MISFIT;
        }

        private int strayFrame() {
            for (int place = 0; place < CODE_MOST; place++) {
                if (frames.has(place) && !code.begins(place)) {
                    return 100 * STRAY_FRAME + place;
                }
            }
            return 0;
        }
    }

    /** Finds what can come to each place, and packs frames of it. */
    private static final class Maker {
        // Types only ever fall towards TOP, some 10 steps for each of the 9 slots of 49 places.
        private static final int ROUNDS_MOST = 1000000;

        private final World world;
        private final Code code;
        private final Stepper stepper;
        private final States states;
        private final TableWriter writer = new TableWriter();
        private final boolean[] waiting = new boolean[CODE_MOST + 1];
        private final boolean[] framed = new boolean[CODE_MOST + 1];

        Maker(World world, Code code, Stepper stepper) {
            this.world = world;
            this.code = code;
            this.stepper = stepper;
            states = new States(world);
        }

        /** 100 * fault and the place, or 0: then all places have their types. */
        int firstFault() {
            code.findBegins();
            states.forgetAll();
            unmark(waiting);
            stepper.now.enter(world.method);
            comesTo(0);
            for (int round = 0; round < ROUNDS_MOST; round++) {
                int place = lowestWaiting();
                if (place == NONE) {
                    break;
                }
                int fault = work(place);
                if (fault != 0) {
                    return fault;
                }
            }
            return firstUnreached();
        }

        private static void unmark(boolean[] row) {
            for (int place = 0; place < row.length; place++) {
                row[place] = false;
            }
        }

        /** The frames of the places that the last firstFault, which was 0, has found. */
        Bytes pack() {
            writer.begin(world.method, markFramed());
            for (int place = 0; place < code.size(); place++) {
                if (framed[place]) {
                    writer.write(states, place);
                }
            }
            return writer.packed;
        }

        private int lowestWaiting() {
            for (int place = 0; place <= CODE_MOST; place++) {
                if (waiting[place]) {
                    return place;
                }
            }
            return NONE;
        }

        private int work(int place) {
            waiting[place] = false;
            if (!code.isWhole(place)) {
                return 100 * NOT_WHOLE + place;
            }
            states.load(place, stepper.now);
            int fault = stepper.step(place);
            if (fault != 0) {
                return 100 * fault + place;
            }
            boolean goes = code.goes(place);
            int target = code.target(place);
            if (goes && !code.begins(target)) {
                return 100 * NO_PLACE_TO_GO + place;
            }
            int behind = code.behind(place);
            if (code.goesOn(place) && !comesTo(behind)) {
                return 100 * FRAME_MISFIT + behind;
            }
            if (goes && !comesTo(target)) {
                return 100 * FRAME_MISFIT + target;
            }
            return 0;
        }

        /** False if another height of the stack has come there before. */
        private boolean comesTo(int place) {
            State now = stepper.now;
            if (!states.has(place)) {
                states.store(place, now);
                waiting[place] = true;
                return true;
            }
            if (states.height(place) != now.height) {
                return false;
            }
            if (states.meet(now, place)) {
                waiting[place] = true;
            }
            return true;
        }

        private int firstUnreached() {
            for (int place = 0; place < code.size(); place++) {
                if (code.begins(place) && !states.has(place)) {
                    return 100 * NOTHING_CAME + place;
                }
            }
            return 0;
        }

        /** Marks the places that need a frame: how many there are. */
        private int markFramed() {
            unmark(framed);
            for (int place = 0; place < code.size(); place++) {
                if (code.begins(place)) {
                    markFrom(place);
                }
            }
            int count = 0;
            for (int place = 0; place < code.size(); place++) {
                if (framed[place]) {
                    count++;
                }
            }
            return count;
        }

        private void markFrom(int place) {
            if (code.goes(place) && code.begins(code.target(place))) {
                framed[code.target(place)] = true;
            }
            if (!code.goesOn(place) && code.begins(code.behind(place))) {
                framed[code.behind(place)] = true;
            }
        }
    }
}
