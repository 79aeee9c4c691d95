import java.util.Arrays;

/**
 * Stories as routines over rows of memory and things of kinds that inherit.
 * The document that it keeps is ../shared/DOC.md; its words are used here.
 */
public final class StoryClasses {
    public static final int NONE = -1, BAD = -1000000, FULL = -1000001;

    // What is done inside answers FINE or the code of the fault that came.
    private static final int FINE = 0, NOTHING = 1, INDEX = 2, CAST = 3, STORE = 4, SIZE = 5, ZERO = 6;
    private static final int ARGUMENT = 7, PILE = 8, DEEP = 9, BEHIND = 10, OWN = 11, DUMB = 12;
    // A fault that had been put aside comes on: it was counted when it came first.
    private static final int COMES_ON = -1;
    private static final int REFUSED = -10;

    private static final int MOST_ROWS = 12, MOST_ITEMS = 12, LANES = 8;
    private static final int MOST_THINGS = 12, MOST_PLACES = 4, KINDS = 6, MESSAGES = 9;
    private static final int MOST_ROUTINES = 12, MOST_LOCALS = 6, MOST_OPS = 30, MOST_GUARDS = 4, MOST_PILED = 8;
    private static final int MOST_KEPT = 3, MOST_KEEPINGS = 6, MOST_OPEN = 12;
    private static final int MOST_STEPS = 300, SPENDING_FAULT = 25, MOST_OUTPUT = 60;

    private static final int RETURNED = 0, FAULTED = 1, SPENT = 2, RUNNING = 3;

    private final Machine machine = new Machine();

    public StoryClasses() {
    }

    public int row(int r, int lane, int n) {
        if (!isRow(r) || !isLane(lane)) {
            return BAD;
        }
        int code = machine.memory.renew(r, lane, n);
        return code == FINE ? n : REFUSED - code;
    }

    public int miss(int r) {
        if (!isRow(r)) {
            return BAD;
        }
        return machine.memory.drop(r) ? 1 : 0;
    }

    public int share(int r, int s) {
        if (!isRow(r) || !isRow(s)) {
            return BAD;
        }
        return machine.memory.join(r, s) ? 1 : 0;
    }

    public int put(int r, int i, long v) {
        if (!isRow(r)) {
            return BAD;
        }
        int code = machine.memory.reach(r, i);
        if (code != FINE) {
            return REFUSED - code;
        }
        machine.memory.store(r, i, v);
        return 1;
    }

    public long item(int r, int i) {
        if (!isRow(r) || machine.memory.reach(r, i) != FINE) {
            return 0;
        }
        return machine.memory.valueAt(r, i);
    }

    public int about(int r, int what) {
        if (!isRow(r)) {
            return BAD;
        }
        switch (what) {
            case 0:
                return machine.memory.sizeOf(r);
            case 1:
                return machine.memory.laneOf(r);
            case 2:
                return machine.memory.leastSame(r);
            default:
                return BAD;
        }
    }

    public int thing(int kind) {
        if (kind < 0 || kind >= KINDS) {
            return BAD;
        }
        return machine.things.bring(kind);
    }

    public int of(int t, int what) {
        return machine.things.exists(t) ? machine.things.tell(t, what) : 0;
    }

    public int routine(int locals) {
        if (locals < 1 || locals > MOST_LOCALS) {
            return BAD;
        }
        return machine.addRoutine(locals);
    }

    public int op(int routine, int op, int a, int b) {
        Routine r = machine.routineAt(routine);
        if (r == null || !r.admits(op, a, b)) {
            return BAD;
        }
        return r.addOp(op, a, b);
    }

    public int guard(int routine, int from, int to, int code, int handler) {
        Routine r = machine.routineAt(routine);
        boolean places = from >= 0 && from < to && to <= MOST_OPS;
        if (r == null || !places || code < 0 || code > DUMB || !isPlace(handler)) {
            return BAD;
        }
        return r.addGuard(from, to, code, handler);
    }

    public int last(int routine, int place) {
        Routine r = machine.routineAt(routine);
        if (r == null || (place != NONE && !isPlace(place))) {
            return BAD;
        }
        int before = r.lastPlace;
        r.lastPlace = place;
        return before;
    }

    public int run(int routine, long x, long y) {
        Routine r = machine.routineAt(routine);
        if (r == null || r.ops == 0) {
            return BAD;
        }
        return machine.play(routine, r, x, y);
    }

    public long result() {
        return machine.returned;
    }

    public int told(int what) {
        switch (what) {
            case 0:
                return machine.fault.code;
            case 1:
                return machine.fault.routine;
            case 2:
                return machine.fault.place;
            case 3:
                return machine.steps;
            case 4:
                return machine.faults;
            case 5:
                return machine.taken;
            case 6:
                return machine.lasts;
            case 7:
                return machine.deepest;
            default:
                return BAD;
        }
    }

    public long number() {
        return machine.fault.number;
    }

    public long output(int i) {
        return i >= 0 && i < machine.outputs ? machine.output[i] : 0;
    }

    public int count(int what, int k) {
        switch (what) {
            case 0:
                return machine.things.total;
            case 1:
                return machine.routineCount;
            case 2:
                return machine.keepings.kept;
            case 3:
                return machine.outputs;
            default:
                return countOfRoutine(what, machine.routineAt(k));
        }
    }

    public int forget() {
        return machine.keepings.clear();
    }

    private static int countOfRoutine(int what, Routine r) {
        if (r == null) {
            return BAD;
        }
        switch (what) {
            case 4:
                return r.locals;
            case 5:
                return r.ops;
            case 6:
                return r.guards;
            default:
                return BAD;
        }
    }

    private static boolean isRow(int r) {
        return r >= 0 && r < MOST_ROWS;
    }

    private static boolean isLane(int lane) {
        return lane >= 0 && lane < LANES;
    }

    private static boolean isPlace(int place) {
        return place >= 0 && place < MOST_OPS;
    }

    /** What lanes mean: how a number is held in one, and which goes into which. */
    private static final class Lanes {
        /**
         * The number x as something of a lane, and that as a number again. Items are held as these
         * numbers: a float or double made from a long is found again from its number, 2^63 too.
         */
        static long through(int lane, long x) {
            switch (lane) {
                case 0:
                    return x & 1;
                case 1:
                    return (byte) x;
                case 2:
                    return (short) x;
                case 3:
                    return (char) x;
                case 4:
                    return (int) x;
                case 6:
                    return (long) (float) x;
                case 7:
                    return (long) (double) x;
                default:
                    return x;
            }
        }

        /** Signs (3) are the one lane above that others do not go into. */
        static boolean goesInto(int from, int to) {
            return from >= 1 && from < to && to != 3;
        }
    }

    /**
     * The rows. Each row is a body's number or NONE; rows that are the same one have the same body.
     * Twelve bodies are enough for twelve rows, so a body that no row uses is used again.
     */
    private static final class Memory {
        private final int[] bodies = new int[MOST_ROWS];
        private final int[] uses = new int[MOST_ROWS];
        private final int[] lanes = new int[MOST_ROWS];
        private final int[] sizes = new int[MOST_ROWS];
        private final long[] items = new long[MOST_ROWS * MOST_ITEMS];

        Memory() {
            Arrays.fill(bodies, NONE);
        }

        int renew(int r, int lane, long n) {
            if (n < 0) {
                return SIZE;
            }
            if (n > MOST_ITEMS) {
                return ARGUMENT;
            }
            drop(r);
            int body = freeBody();
            attach(r, body);
            lanes[body] = lane;
            sizes[body] = (int) n;
            for (int i = 0; i < MOST_ITEMS; i++) {
                items[body * MOST_ITEMS + i] = 0;
            }
            return FINE;
        }

        /** Asked only while some row has no body: then at most eleven bodies are used. */
        private int freeBody() {
            for (int body = 0; body < MOST_ROWS - 1; body++) {
                if (uses[body] == 0) {
                    return body;
                }
            }
            return MOST_ROWS - 1;
        }

        private void attach(int r, int body) {
            bodies[r] = body;
            uses[body]++;
        }

        /** Whether it was there. */
        boolean drop(int r) {
            if (bodies[r] == NONE) {
                return false;
            }
            uses[bodies[r]]--;
            bodies[r] = NONE;
            return true;
        }

        /** Whether they were not the same one. */
        boolean join(int r, int s) {
            if (bodies[r] == bodies[s]) {
                return false;
            }
            drop(r);
            if (bodies[s] != NONE) {
                attach(r, bodies[s]);
            }
            return true;
        }

        int sizeOf(int r) {
            return bodies[r] == NONE ? NONE : sizes[bodies[r]];
        }

        int laneOf(int r) {
            return bodies[r] == NONE ? NONE : lanes[bodies[r]];
        }

        int leastSame(int r) {
            for (int s = 0; s < r; s++) {
                if (bodies[s] == bodies[r]) {
                    return s;
                }
            }
            return r;
        }

        int reach(int r, long i) {
            if (bodies[r] == NONE) {
                return NOTHING;
            }
            return i < 0 || i >= sizes[bodies[r]] ? INDEX : FINE;
        }

        int reachHeld(int r, int lane, long i) {
            return bodies[r] != NONE && lanes[bodies[r]] != lane ? CAST : reach(r, i);
        }

        int reachAsked(int r, int lane, long i) {
            int code = reach(r, i);
            if (code != FINE) {
                return code;
            }
            return laneOf(r) == lane || Lanes.goesInto(laneOf(r), lane) ? FINE : ARGUMENT;
        }

        int reachPut(int r, int lane, long i) {
            int code = reach(r, i);
            if (code != FINE) {
                return code;
            }
            return laneOf(r) == lane || Lanes.goesInto(lane, laneOf(r)) ? FINE : ARGUMENT;
        }

        /** Of an item that has been reached. */
        long valueAt(int r, long i) {
            return reach(r, i) == FINE ? items[bodies[r] * MOST_ITEMS + (int) i] : 0;
        }

        /** Into an item that has been reached. */
        void store(int r, long i, long v) {
            if (reach(r, i) == FINE) {
                items[bodies[r] * MOST_ITEMS + (int) i] = Lanes.through(lanes[bodies[r]], v);
            }
        }

        void copyFrom(Memory other) {
            System.arraycopy(other.bodies, 0, bodies, 0, MOST_ROWS);
            System.arraycopy(other.uses, 0, uses, 0, MOST_ROWS);
            System.arraycopy(other.lanes, 0, lanes, 0, MOST_ROWS);
            System.arraycopy(other.sizes, 0, sizes, 0, MOST_ROWS);
            System.arraycopy(other.items, 0, items, 0, MOST_ROWS * MOST_ITEMS);
        }
    }

    /** The things, a column for each of what they have; THING t is asked for only when it exists. */
    private static final class Things {
        static final int BOX = 0, CRATE = 1, CAGE = 2, CART = 3, LAMP = 4, LANTERN = 5;
        static final int WEIGH = 0, TAKE = 1, GLOW = 2, OPEN = 3, MARK = 4, CRATE_MARK = 5;
        static final int SET_MARK = 6, SET_CRATE_MARK = 7, SET_LANTERN_MARK = 8;
        static final long OVERLOAD = 50;
        private static final int CRATE_BEARS = 9;
        // By kind: the kind that it is, how many places its shelf has, and for which kind they are.
        private static final int[] PARENTS = {NONE, BOX, CRATE, CAGE, BOX, LAMP};
        private static final int[] PLACES = {4, 3, 3, 3, 2, 2};
        private static final int[] SHELF_KINDS = {BOX, CRATE, CRATE, CRATE, LAMP, LAMP};

        private final int[] kinds = new int[MOST_THINGS];
        private final int[] counts = new int[MOST_THINGS];
        private final int[] marks = new int[MOST_THINGS];
        private final int[] ownMarks = new int[MOST_THINGS];
        private final int[] shelves = new int[MOST_THINGS * MOST_PLACES];
        private int total;
        private int answer;

        Things() {
            Arrays.fill(shelves, NONE);
        }

        int bring(int kind) {
            if (total >= MOST_THINGS) {
                return FULL;
            }
            kinds[total] = kind;
            total++;
            return total - 1;
        }

        boolean exists(long t) {
            return t >= 0 && t < total;
        }

        int tell(int t, int what) {
            switch (what) {
                case 0:
                    return kinds[t];
                case 1:
                    return counts[t];
                case 2:
                    return marks[t];
                case 3:
                    return ownMarks[t];
                case 4:
                    return placesOf(t);
                default:
                    return what >= 5 && what - 5 < placesOf(t) ? lies(t, what - 5) : 0;
            }
        }

        private boolean isA(int t, int kind) {
            int k = kinds[t];
            for (int i = 0; i < KINDS && k != NONE; i++) {
                if (k == kind) {
                    return true;
                }
                k = PARENTS[k];
            }
            return false;
        }

        private int placesOf(int s) {
            return PLACES[kinds[s]];
        }

        int reachShelf(long s, long i) {
            if (!exists(s)) {
                return NOTHING;
            }
            return i < 0 || i >= placesOf((int) s) ? INDEX : FINE;
        }

        int lies(int s, int i) {
            return shelves[s * MOST_PLACES + i];
        }

        int layOnShelf(long s, long i, long t) {
            if (!exists(s) || (t != NONE && !exists(t))) {
                return NOTHING;
            }
            int code = reachShelf(s, i);
            if (code != FINE) {
                return code;
            }
            if (t != NONE && !isA((int) t, SHELF_KINDS[kinds[(int) s]])) {
                return STORE;
            }
            shelves[(int) s * MOST_PLACES + (int) i] = (int) t;
            return FINE;
        }

        static boolean hasNumber(int message) {
            return message == TAKE || message >= SET_MARK;
        }

        /** The fault that came, or FINE with what is answered in 'answer'. */
        int send(int t, int message, int n) {
            switch (message) {
                case WEIGH:
                    answer = weight(t);
                    return FINE;
                case TAKE:
                    return load(t, n);
                case GLOW:
                    return glow(t, weight(t));
                case OPEN:
                    return openUp(t);
                case MARK:
                    answer = marks[t];
                    return FINE;
                case CRATE_MARK:
                    answer = ownMarks[t];
                    return isA(t, CRATE) ? FINE : CAST;
                case SET_MARK:
                    answer = marks[t];
                    marks[t] = n;
                    return FINE;
                case SET_CRATE_MARK:
                    return setOwnMark(t, CRATE, n);
                default:
                    return setOwnMark(t, LANTERN, n);
            }
        }

        private int weight(int t) {
            int weight = 2 + counts[t];
            if (isA(t, CRATE)) {
                weight *= 2;
            }
            if (isA(t, CART)) {
                weight++;
            }
            return isA(t, LANTERN) ? weight - ownMarks[t] : weight;
        }

        private int load(int t, int n) {
            if (isA(t, CAGE)) {
                ownMarks[t]++;
            }
            if (isA(t, CRATE) && counts[t] + n > CRATE_BEARS) {
                return OWN;
            }
            counts[t] += n;
            if (isA(t, LAMP)) {
                marks[t] = n;
            }
            answer = isA(t, LANTERN) ? marks[t] : counts[t];
            return FINE;
        }

        private int glow(int t, int weight) {
            if (!isA(t, LAMP)) {
                return CAST;
            }
            answer = isA(t, LANTERN) ? 3 * counts[t] : 5 + weight;
            return FINE;
        }

        private int openUp(int t) {
            if (!isA(t, CRATE)) {
                return DUMB;
            }
            answer = isA(t, CAGE) ? 100 + ownMarks[t] : ownMarks[t];
            return FINE;
        }

        private int setOwnMark(int t, int kind, int n) {
            if (!isA(t, kind)) {
                return CAST;
            }
            answer = ownMarks[t];
            ownMarks[t] = n;
            return FINE;
        }

        /** All that changes of the first n things. */
        void copyFirst(Things other, int n) {
            System.arraycopy(other.counts, 0, counts, 0, n);
            System.arraycopy(other.marks, 0, marks, 0, n);
            System.arraycopy(other.ownMarks, 0, ownMarks, 0, n);
            System.arraycopy(other.shelves, 0, shelves, 0, n * MOST_PLACES);
        }
    }

    /** What is kept, the latest last. */
    private static final class Keepings {
        private final Memory[] memories = new Memory[MOST_KEPT];
        private final Things[] things = new Things[MOST_KEPT];
        private int kept;

        Keepings() {
            for (int i = 0; i < MOST_KEPT; i++) {
                memories[i] = new Memory();
                things[i] = new Things();
            }
        }

        boolean isFull() {
            return kept >= MOST_KEPT;
        }

        void keep(Memory memory, Things all) {
            if (!isFull()) {
                memories[kept].copyFrom(memory);
                things[kept].copyFirst(all, all.total);
                things[kept].total = all.total;
                kept++;
            }
        }

        /** Whether there was one. Things that came since it was kept stay as they are. */
        boolean bringBack(Memory memory, Things all) {
            if (kept == 0) {
                return false;
            }
            kept--;
            memory.copyFrom(memories[kept]);
            all.copyFirst(things[kept], things[kept].total);
            return true;
        }

        int clear() {
            int gone = kept;
            kept = 0;
            return gone;
        }
    }

    /** The numbers of the ops, and how many numbers each takes. */
    private static final class Ops {
        static final int CONSTANT = 0, LOCAL = 1, SET_LOCAL = 2, ADD = 3, SUBTRACT = 4, MULTIPLY = 5, DIVIDE = 6;
        static final int REMAINDER = 7, BELOW = 8, SAME = 9, GO = 10, GO_IF_ZERO = 11, ITEM = 12, SET_ITEM = 13;
        static final int ROW_SIZE = 14, NEW_ROW = 15, DROP_ROW = 16, ASK_ITEM = 17, PUT_ITEM = 18, CALL = 19;
        static final int RETURN = 20, THROW = 21, LEAVE = 22, SEND = 23, LAY_ON_SHELF = 24, LOOK_ON_SHELF = 25;
        static final int OUTPUT = 26, KEEP = 27, BRING_BACK = 28, SAME_ROW = 29;
        // Of CALL and SEND the op's own numbers tell it.
        private static final int[] TAKES = {
            0, 0, 1, 2, 2, 2, 2, 2, 2, 2, 0, 1, 1, 2, 0, 1, 0, 1, 2, 0, 1, 1, 0, 0, 3, 2, 1, 0, 0, 0};

        static int takes(int op, int a, int b) {
            if (op == CALL) {
                return b;
            }
            if (op == SEND) {
                return Things.hasNumber(a) ? 2 : 1;
            }
            return op >= 0 && op < TAKES.length ? TAKES[op] : 0;
        }
    }

    /** A routine as it was told. */
    private static final class Routine {
        private final int locals;
        private final int[] codes = new int[MOST_OPS];
        private final int[] as = new int[MOST_OPS];
        private final int[] bs = new int[MOST_OPS];
        private final int[] froms = new int[MOST_GUARDS];
        private final int[] tos = new int[MOST_GUARDS];
        private final int[] guarded = new int[MOST_GUARDS];
        private final int[] handlers = new int[MOST_GUARDS];
        private int ops;
        private int guards;
        private int lastPlace = NONE;

        Routine(int locals) {
            this.locals = locals;
        }

        boolean admits(int op, int a, int b) {
            switch (op) {
                case Ops.LOCAL:
                case Ops.SET_LOCAL:
                    return a >= 0 && a < locals;
                case Ops.GO:
                case Ops.GO_IF_ZERO:
                    return isPlace(a);
                case Ops.ITEM:
                case Ops.SET_ITEM:
                case Ops.NEW_ROW:
                case Ops.ASK_ITEM:
                case Ops.PUT_ITEM:
                    return isRow(a) && isLane(b);
                case Ops.ROW_SIZE:
                case Ops.DROP_ROW:
                    return isRow(a);
                case Ops.SAME_ROW:
                    return isRow(a) && isRow(b);
                case Ops.CALL:
                    return a >= 0 && a < MOST_ROUTINES && b >= 0 && b <= MOST_LOCALS;
                case Ops.SEND:
                    return a >= 0 && a < MESSAGES;
                default:
                    return op >= Ops.CONSTANT && op <= Ops.SAME_ROW;
            }
        }

        int addOp(int op, int a, int b) {
            if (ops >= MOST_OPS) {
                return FULL;
            }
            codes[ops] = op;
            as[ops] = a;
            bs[ops] = b;
            ops++;
            return ops - 1;
        }

        int addGuard(int from, int to, int code, int handler) {
            if (guards >= MOST_GUARDS) {
                return FULL;
            }
            froms[guards] = from;
            tos[guards] = to;
            guarded[guards] = code;
            handlers[guards] = handler;
            guards++;
            return guards - 1;
        }

        boolean hasOp(int place) {
            return place >= 0 && place < ops;
        }

        /** The handler of the first guard that takes it, or NONE. */
        int handlerOf(int place, int code) {
            for (int g = 0; g < guards; g++) {
                boolean has = froms[g] <= place && place < tos[g];
                if (has && (guarded[g] == code || guarded[g] == 0) && hasOp(handlers[g])) {
                    return handlers[g];
                }
            }
            return NONE;
        }
    }

    /** A fault and where it came first. */
    private static final class Fault {
        private int code;
        private long number;
        private int routine = NONE;
        private int place = NONE;

        void become(int newCode, long newNumber, int newRoutine, int newPlace) {
            code = newCode;
            number = newNumber;
            routine = newRoutine;
            place = newPlace;
        }

        void becomeNone() {
            become(FINE, 0, NONE, NONE);
        }

        void becomeAs(Fault other) {
            become(other.code, other.number, other.routine, other.place);
        }
    }

    /** A routine that is open. */
    private static final class Frame {
        private final long[] locals = new long[MOST_LOCALS];
        private final long[] pile = new long[MOST_PILED];
        private final Fault faultAside = new Fault();
        private Routine routine;
        private int routineNumber;
        private int place;
        private int next;
        private int height;
        private boolean lastBegun;
        private boolean isFaultAside;
        private long numberAside;

        void beginWith(int number, Routine opened) {
            routine = opened;
            routineNumber = number;
            place = 0;
            next = 0;
            height = 0;
            lastBegun = false;
            Arrays.fill(locals, 0L);
        }

        boolean take(int n) {
            if (height < n) {
                return false;
            }
            height -= n;
            return true;
        }

        /** Of the numbers that were taken last, number k in the order in which they were laid. */
        long taken(int k) {
            int at = height + k;
            return at < MOST_PILED ? pile[at] : 0;
        }

        int lay(long x) {
            if (height >= MOST_PILED) {
                return PILE;
            }
            pile[height] = x;
            height++;
            return FINE;
        }

        long local(int k) {
            return k >= 0 && k < MOST_LOCALS ? locals[k] : 0;
        }

        void setLocal(int k, long x) {
            if (k >= 0 && k < MOST_LOCALS) {
                locals[k] = x;
            }
        }

        boolean beginsLast() {
            if (lastBegun || !routine.hasOp(routine.lastPlace)) {
                return false;
            }
            lastBegun = true;
            height = 0;
            next = routine.lastPlace;
            return true;
        }

        void putNumberAside(long x) {
            isFaultAside = false;
            numberAside = x;
        }

        void putFaultAside(Fault fault) {
            isFaultAside = true;
            faultAside.becomeAs(fault);
        }

        /** Goes on at the place that is next. */
        int goOn() {
            if (!routine.hasOp(next)) {
                return BEHIND;
            }
            place = next;
            return FINE;
        }
    }

    /** All of a story, and its latest run. */
    private static final class Machine {
        private final Memory memory = new Memory();
        private final Things things = new Things();
        private final Keepings keepings = new Keepings();
        private final Routine[] routines = new Routine[MOST_ROUTINES];
        private int routineCount;

        private final Frame[] frames = new Frame[MOST_OPEN];
        private final long[] output = new long[MOST_OUTPUT];
        private final Fault fault = new Fault();
        private int open;
        private int outputs;
        private int outcome;
        private int keptInRun;
        private int steps;
        private int faults;
        private int taken;
        private int lasts;
        private int deepest;
        private long returned;
        private long thrown;

        Machine() {
            for (int i = 0; i < MOST_OPEN; i++) {
                frames[i] = new Frame();
            }
        }

        int addRoutine(int locals) {
            if (routineCount >= MOST_ROUTINES) {
                return FULL;
            }
            routines[routineCount] = new Routine(locals);
            routineCount++;
            return routineCount - 1;
        }

        Routine routineAt(int k) {
            return k >= 0 && k < routineCount ? routines[k] : null;
        }

        int play(int number, Routine routine, long x, long y) {
            beginRun();
            Frame first = openFrame(number, routine);
            first.setLocal(0, x);
            first.setLocal(1, y);
            for (int i = 0; i < MOST_STEPS && outcome == RUNNING; i++) {
                step(frames[open - 1]);
            }
            if (outcome == RUNNING) {
                outcome = SPENT;
            }
            if (outcome != FAULTED) {
                fault.becomeNone();
            }
            return outcome;
        }

        private void beginRun() {
            open = 0;
            outputs = 0;
            keptInRun = 0;
            steps = 0;
            faults = 0;
            taken = 0;
            lasts = 0;
            deepest = 0;
            returned = 0;
            outcome = RUNNING;
        }

        private Frame openFrame(int number, Routine routine) {
            Frame opened = frames[open];
            opened.beginWith(number, routine);
            open++;
            deepest = Math.max(deepest, open);
            return opened;
        }

        /** One op. What it calls or ends changes which frame is open last, and that one goes on. */
        private void step(Frame f) {
            steps++;
            f.next = f.place + 1;
            int code = act(f, f.routine.codes[f.place], f.routine.as[f.place], f.routine.bs[f.place]);
            if (code == FINE && open > 0) {
                code = frames[open - 1].goOn();
            }
            if (code == COMES_ON) {
                passOn();
            } else if (code != FINE) {
                raise(code, frames[open - 1]);
            }
        }

        private void raise(int code, Frame f) {
            faults++;
            fault.become(code, code == OWN ? thrown : 0, f.routineNumber, f.place);
            if (faults >= SPENDING_FAULT) {
                outcome = SPENT;
            } else {
                passOn();
            }
        }

        /** The fault comes on from routine to routine until a guard takes it or a last begins. */
        private void passOn() {
            for (; open > 0; open--) {
                Frame f = frames[open - 1];
                int handler = f.routine.handlerOf(f.place, fault.code);
                if (handler != NONE) {
                    beTaken(f, handler);
                    return;
                }
                if (f.beginsLast()) {
                    lasts++;
                    f.putFaultAside(fault);
                    f.place = f.next;
                    return;
                }
            }
            outcome = FAULTED;
        }

        private void beTaken(Frame f, int handler) {
            taken++;
            f.height = 0;
            f.lay(fault.number);
            f.lay(fault.code);
            f.place = handler;
        }

        private int act(Frame f, int op, int a, int b) {
            if (!f.take(Ops.takes(op, a, b))) {
                return PILE;
            }
            switch (op) {
                case Ops.CONSTANT:
                case Ops.LOCAL:
                case Ops.SET_LOCAL:
                case Ops.GO:
                case Ops.GO_IF_ZERO:
                    return useLocals(f, op, a);
                case Ops.ITEM:
                case Ops.SET_ITEM:
                case Ops.ASK_ITEM:
                case Ops.PUT_ITEM:
                    return useItem(f, op, a, b);
                case Ops.ROW_SIZE:
                case Ops.NEW_ROW:
                case Ops.DROP_ROW:
                case Ops.SAME_ROW:
                    return useRow(f, op, a, b);
                case Ops.CALL:
                    return callRoutine(f, a, b);
                case Ops.RETURN:
                    return giveBack(f, f.taken(0));
                case Ops.THROW:
                    thrown = f.taken(0);
                    return OWN;
                case Ops.LEAVE:
                    return leave(f);
                case Ops.SEND:
                    return sendTo(f, f.taken(0), a);
                case Ops.LAY_ON_SHELF:
                    return things.layOnShelf(f.taken(0), f.taken(1), f.taken(2));
                case Ops.LOOK_ON_SHELF:
                    return lookOnShelf(f, f.taken(0), f.taken(1));
                case Ops.OUTPUT:
                    return tellOutside(f.taken(0));
                case Ops.KEEP:
                    return keepAll(f);
                case Ops.BRING_BACK:
                    return f.lay(keepings.bringBack(memory, things) ? 1 : 0);
                default:
                    return reckon(f, op, f.taken(0), f.taken(1));
            }
        }

        private int useLocals(Frame f, int op, int a) {
            switch (op) {
                case Ops.CONSTANT:
                    return f.lay(a);
                case Ops.LOCAL:
                    return f.lay(f.local(a));
                case Ops.SET_LOCAL:
                    f.setLocal(a, f.taken(0));
                    return FINE;
                case Ops.GO:
                    f.next = a;
                    return FINE;
                default:
                    f.next = f.taken(0) == 0 ? a : f.next;
                    return FINE;
            }
        }

        private int reckon(Frame f, int op, long x, long y) {
            switch (op) {
                case Ops.ADD:
                    return f.lay(x + y);
                case Ops.SUBTRACT:
                    return f.lay(x - y);
                case Ops.MULTIPLY:
                    return f.lay(x * y);
                case Ops.DIVIDE:
                    return y == 0 ? ZERO : f.lay(x / y);
                case Ops.REMAINDER:
                    return y == 0 ? ZERO : f.lay(x % y);
                case Ops.BELOW:
                    return f.lay(x < y ? 1 : 0);
                default:
                    return f.lay(x == y ? 1 : 0);
            }
        }

        private int useItem(Frame f, int op, int r, int lane) {
            long i = f.taken(0);
            long x = f.taken(1);
            int code = reachItem(op, r, lane, i);
            if (code != FINE) {
                return code;
            }
            switch (op) {
                case Ops.ITEM:
                    return f.lay(memory.valueAt(r, i));
                case Ops.ASK_ITEM:
                    return f.lay(Lanes.through(lane, memory.valueAt(r, i)));
                case Ops.PUT_ITEM:
                    memory.store(r, i, Lanes.through(lane, x));
                    return FINE;
                default:
                    memory.store(r, i, x);
                    return FINE;
            }
        }

        private int reachItem(int op, int r, int lane, long i) {
            switch (op) {
                case Ops.ASK_ITEM:
                    return memory.reachAsked(r, lane, i);
                case Ops.PUT_ITEM:
                    return memory.reachPut(r, lane, i);
                default:
                    return memory.reachHeld(r, lane, i);
            }
        }

        private int useRow(Frame f, int op, int r, int b) {
            switch (op) {
                case Ops.ROW_SIZE:
                    return memory.sizeOf(r) == NONE ? NOTHING : f.lay(memory.sizeOf(r));
                case Ops.NEW_ROW:
                    return memory.renew(r, b, f.taken(0));
                case Ops.DROP_ROW:
                    memory.drop(r);
                    return FINE;
                default:
                    memory.join(r, b);
                    return FINE;
            }
        }

        private int callRoutine(Frame f, int number, int given) {
            if (given == 0 && f.height >= MOST_PILED) {
                return PILE;
            }
            Routine called = routineAt(number);
            if (called == null || called.ops == 0) {
                return NOTHING;
            }
            if (given > called.locals) {
                return ARGUMENT;
            }
            if (open >= MOST_OPEN) {
                return DEEP;
            }
            Frame opened = openFrame(number, called);
            for (int k = 0; k < given; k++) {
                opened.setLocal(k, f.taken(k));
            }
            return FINE;
        }

        private int giveBack(Frame f, long x) {
            if (!f.beginsLast()) {
                return endWith(x);
            }
            lasts++;
            f.putNumberAside(x);
            return FINE;
        }

        private int leave(Frame f) {
            if (!f.lastBegun) {
                return BEHIND;
            }
            if (!f.isFaultAside) {
                return endWith(f.numberAside);
            }
            fault.becomeAs(f.faultAside);
            open--;
            return COMES_ON;
        }

        private int endWith(long x) {
            open--;
            if (open > 0) {
                return frames[open - 1].lay(x);
            }
            returned = x;
            outcome = RETURNED;
            return FINE;
        }

        private int sendTo(Frame f, long t, int message) {
            if (!things.exists(t)) {
                return NOTHING;
            }
            int code = things.send((int) t, message, (int) f.taken(1));
            if (code == OWN) {
                thrown = Things.OVERLOAD;
            }
            return code == FINE ? f.lay(things.answer) : code;
        }

        private int lookOnShelf(Frame f, long s, long i) {
            int code = things.reachShelf(s, i);
            return code == FINE ? f.lay(things.lies((int) s, (int) i)) : code;
        }

        private int tellOutside(long x) {
            if (outputs < MOST_OUTPUT) {
                output[outputs] = x;
                outputs++;
            }
            return FINE;
        }

        private int keepAll(Frame f) {
            if (keepings.isFull() || keptInRun >= MOST_KEEPINGS) {
                return ARGUMENT;
            }
            keepings.keep(memory, things);
            keptInRun++;
            return f.lay(keepings.kept);
        }
    }
}
