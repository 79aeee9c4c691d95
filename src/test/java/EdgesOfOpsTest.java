/**
 * The ops of part 3 of the document's terms, but those of things (EdgesOfThingsTest) and of keeping
 * (EdgesOfKeepingTest): each sentence that names an edge has a method of its own, with the sentence above it.
 */
public final class EdgesOfOpsTest {
    private static final int NONE = Check.NONE;
    private static final int NOTHING = Check.NOTHING, INDEX = Check.INDEX, CAST = Check.CAST, SIZE = Check.SIZE;
    private static final int ZERO = Check.ZERO, ARGUMENT = Check.ARGUMENT, PILE = Check.PILE, DEEP = Check.DEEP;
    private static final int BEHIND = Check.BEHIND, OWN = Check.OWN;
    private static final long MIN = Long.MIN_VALUE, MAX = Long.MAX_VALUE;
    private static final long[] NO_INDEX_OF_3 = {-1, 3, 12, 1L << 32, (1L << 32) + 1, MIN, MAX};
    private static final Check c = new Check();

    public static void main(String[] args) {
        numbersWrap();
        divides();
        zero();
        below();
        same();
        locals();
        goesToPlace();
        goesIfZero();
        behindOfGoing();
        behindOfTheNext();
        behindIsAtTheOp();
        heldIndex();
        heldLane();
        heldBecomes();
        heldBecomesRefused();
        heldOrder();
        size();
        newRow();
        newRowRefused();
        missing();
        sameRow();
        askedIndex();
        askedLanes();
        askedAsNumber();
        askedOrder();
        putIndex();
        putLanes();
        putAsNumber();
        putOrder();
        callLocals();
        callNothing();
        callArgument();
        callPile();
        callDeep();
        callOrder();
        returnsAny();
        ownAny();
        outputHolds60();
        c.end();
    }

    private static int[] op(int... numbers) {
        return Check.op(numbers);
    }

    /** A routine that does an op with LOCALS 0 and 1 and RETURNS what it laid. */
    private static int ofTwo(StoryClasses x, int... op) {
        return Check.routine(x, 2, op(1, 0), op(1, 1), op, op(20));
    }

    /** A routine that does an op with LOCAL 0 and RETURNS what it laid. */
    private static int ofOne(StoryClasses x, int... op) {
        return Check.routine(x, 2, op(1, 0), op, op(20));
    }

    /** A routine that does an op with LOCALS 0 and 1, which lays nothing, and RETURNS 77. */
    private static int doing(StoryClasses x, int... op) {
        return Check.routine(x, 2, op(1, 0), op(1, 1), op, op(0, 77), op(20));
    }

    /** "Numbers of stories are longs, wrapping." */
    private static void numbersWrap() {
        StoryClasses x = new StoryClasses();
        int plus = ofTwo(x, 3);
        int minus = ofTwo(x, 4);
        int times = ofTwo(x, 5);
        c.gives("3", x, plus, MAX - 1, 1, MAX);
        c.gives("3 wraps", x, plus, MAX, 1, MIN);
        c.gives("3 wraps", x, plus, MIN, -1, MAX);
        c.gives("3 no int", x, plus, Integer.MAX_VALUE, 1, 1L << 31);
        c.gives("4", x, minus, MIN + 1, 1, MIN);
        c.gives("4 wraps", x, minus, MIN, 1, MAX);
        c.gives("4 wraps", x, minus, 0, MIN, MIN);
        c.gives("5", x, times, 1L << 31, 1L << 31, 1L << 62);
        c.gives("5 wraps", x, times, 1L << 32, 1L << 31, MIN);
        c.gives("5 wraps", x, times, 1L << 32, 1L << 32, 0);
        c.gives("5 wraps", x, times, MIN, -1, MIN);
    }

    /** "6 x / y, 7 x % y (6, 7 as longs ..": toward 0, and the least by -1 wraps. */
    private static void divides() {
        StoryClasses x = new StoryClasses();
        int by = ofTwo(x, 6);
        int rest = ofTwo(x, 7);
        long[][] rows = {{7, 2, 3, 1}, {-7, 2, -3, -1}, {7, -2, -3, 1}, {-7, -2, 3, -1}, {MIN, -1, MIN, 0},
            {MIN, 1, MIN, 0}, {MAX, -1, -MAX, 0}, {MAX, MIN, 0, MAX}, {MIN, MIN, 1, 0}, {1L << 40, 1L << 32, 256, 0},
            {0, 5, 0, 0}};
        for (long[] row : rows) {
            c.gives("6 of " + row[0] + ", " + row[1], x, by, row[0], row[1], row[2]);
            c.gives("7 of " + row[0] + ", " + row[1], x, rest, row[0], row[1], row[3]);
        }
    }

    /** "(6, 7 ..: ZERO)". */
    private static void zero() {
        StoryClasses x = new StoryClasses();
        for (int op = 6; op <= 7; op++) {
            int r = ofTwo(x, op);
            for (long n : new long[] {0, 1, -1, MIN, MAX}) {
                c.fails(op + " ZERO", x, r, n, 0, ZERO, 2);
            }
            c.gives(op + " of 2^32", x, r, 1, 1L << 32, op == 6 ? 0 : 1);
            c.gives(op + " of 1", x, r, 0, 1, 0);
            c.gives(op + " of -1", x, r, 0, -1, 0);
        }
    }

    /** "8 whether x is below y": not where they are the same. */
    private static void below() {
        StoryClasses x = new StoryClasses();
        int r = ofTwo(x, 8);
        c.gives("8 below", x, r, 4, 5, 1);
        c.gives("8 the same", x, r, 5, 5, 0);
        c.gives("8 above", x, r, 6, 5, 0);
        c.gives("8 the least, the greatest", x, r, MIN, MAX, 1);
        c.gives("8 the greatest, the least", x, r, MAX, MIN, 0);
        c.gives("8 the least", x, r, MIN, MIN, 0);
        c.gives("8 no int", x, r, 1L << 32, 1, 0);
    }

    /** "9 whether they are the same (1, 0)". */
    private static void same() {
        StoryClasses x = new StoryClasses();
        int r = ofTwo(x, 9);
        c.gives("9 the same", x, r, 5, 5, 1);
        c.gives("9 1 less", x, r, 4, 5, 0);
        c.gives("9 1 more", x, r, 6, 5, 0);
        c.gives("9 no int", x, r, 1L << 32, 0, 0);
        c.gives("9 great", x, r, MAX, MAX, 1);
        c.gives("9 great", x, r, MIN, MAX, 0);
    }

    /** "1 lays LOCAL a. 2 takes x: LOCAL a becomes it." */
    private static void locals() {
        StoryClasses x = new StoryClasses();
        for (int k = 0; k < 6; k++) {
            int r = Check.routine(x, 6, op(1, 0), op(2, k), op(0, 0), op(2, k == 0 ? 1 : 0), op(1, k), op(20));
            c.gives("LOCAL " + k, x, r, MIN, 5, MIN);
        }
        // It is what was laid that was taken: LOCAL a is no other number's name.
        c.returns("1 of a new one", x, 0, op(0, 4), op(2, 0), op(1, 1), op(20));
    }

    /** "10 goes to place a." */
    private static void goesToPlace() {
        StoryClasses x = new StoryClasses();
        c.returns("10 over the next", x, 2, op(10, 3), op(0, 1), op(20), op(0, 2), op(20));
        c.returns("10 to the next", x, 1, op(10, 1), op(0, 1), op(20));
        c.returns("10 back to place 0", x, 3, op(0, 1), op(0, 2), op(10, 4), op(10, 0), op(3), op(20));
        StoryClasses y = new StoryClasses();
        int itself = Check.routine(y, 1, op(10, 0));
        c.due("10 to itself", y.run(itself, 0, 0), 2);
        c.due("10 to itself", y.told(3), 300);
    }

    /** "11 takes x, goes to place a if it is 0." */
    private static void goesIfZero() {
        StoryClasses x = new StoryClasses();
        int r = Check.routine(x, 1, op(0, 9), op(1, 0), op(11, 5), op(0, 1), op(20), op(0, 2), op(20));
        c.gives("11 of 0", x, r, 0, 0, 2);
        for (long n : new long[] {1, -1, 1L << 32, MIN, MAX}) {
            c.gives("11 of " + n, x, r, n, 0, 1);
        }
        c.returns("11 takes it", x, 9, op(0, 9), op(0, 0), op(11, 3), op(20));
        c.returns("11 takes it", x, 9, op(0, 9), op(0, 1), op(11, 0), op(20));
    }

    /** "BEHIND: there is no OP at that place", of 10 and 11: the last place, and the one behind it. */
    private static void behindOfGoing() {
        StoryClasses x = new StoryClasses();
        c.returns("10 to the last", x, 6, op(0, 6), op(10, 2), op(20));
        c.faults("10 behind the last", x, BEHIND, 1, op(0, 6), op(10, 3), op(20));
        c.faults("10 to 29", x, BEHIND, 1, op(0, 6), op(10, 29), op(20));
        c.returns("11 to the last", x, 6, op(0, 6), op(0, 0), op(11, 3), op(20));
        c.faults("11 behind the last", x, BEHIND, 2, op(0, 6), op(0, 0), op(11, 4), op(20));
        c.returns("11 does not go", x, 6, op(0, 6), op(0, 1), op(11, 4), op(20));
        // An op that comes later is there then.
        int r = Check.routine(x, 1, op(0, 6), op(10, 2));
        c.fails("10 before it came", x, r, 0, 0, BEHIND, 1);
        x.op(r, 20, 0, 0);
        c.gives("10 after it came", x, r, 0, 0, 6);
        c.due("BEHIND is no step", x.told(3), 3);
    }

    /** "Else an OP goes on at the next place. BEHIND": of every op that can be the last one. */
    private static void behindOfTheNext() {
        for (int op = 0; op < 30; op++) {
            StoryClasses x = new StoryClasses();
            x.thing(0);
            x.row(0, 0, 2);
            int r = Check.routine(x, 1, op(0, 0), op(0, 0), op(0, op == 11 || op == 6 || op == 7 ? 1 : 0), op(op));
            boolean ends = op == 10 || op == 19 || op == 20 || op == 21;
            x.run(r, 0, 0);
            if (!ends) {
                c.due("op " + op + " BEHIND", x.told(0), BEHIND);
                c.due("op " + op + " BEHIND: place", x.told(2), 3);
                c.due("op " + op + " BEHIND: steps", x.told(3), 4);
            }
        }
        StoryClasses x = new StoryClasses();
        Check.routine(x, 1, op(0, 1), op(20));
        c.faults("19 BEHIND after it returned", x, BEHIND, 0, op(19, 0, 0));
        c.due("19 it was done", x.told(3), 3);
    }

    /** "the place of this FAULT is that of the OP that goes there": the guard that has that place takes it. */
    private static void behindIsAtTheOp() {
        StoryClasses x = new StoryClasses();
        int r = Check.routine(x, 1, op(10, 3), op(20), op(0, 4), op(10, 9));
        x.guard(r, 4, 30, 0, 2);
        x.guard(r, 3, 4, BEHIND, 1);
        c.gives("BEHIND is taken at its op", x, r, 0, 0, BEHIND);
        int s = Check.routine(x, 1, op(10, 2), op(20), op(0, 4));
        x.guard(s, 3, 30, 0, 1);
        c.fails("BEHIND is not at the place behind", x, s, 0, 0, BEHIND, 2);
    }

    /** "12 of i: lays ITEM i of ROW a ..: INDEX." */
    private static void heldIndex() {
        StoryClasses x = new StoryClasses();
        for (int row : new int[] {0, 11}) {
            x.row(row, 5, 3);
            x.put(row, 0, 70);
            x.put(row, 2, MIN);
            int r = ofOne(x, 12, row, 5);
            c.gives("12 first", x, r, 0, 0, 70);
            c.gives("12 last", x, r, 2, 0, MIN);
            for (long i : NO_INDEX_OF_3) {
                c.fails("12 INDEX " + i, x, r, i, 0, INDEX, 1);
            }
        }
        x.row(0, 5, 0);
        c.fails("12 INDEX of none", x, 0, 0, 0, INDEX, 1);
        x.row(0, 5, 12);
        c.gives("12 of 12", x, 0, 11, 0, 0);
        c.fails("12 INDEX of 12", x, 0, 12, 0, INDEX, 1);
    }

    /** "held as LANE b: NOTHING (it is MISSING), CAST (it has another LANE)": no LANE goes INTO another here. */
    private static void heldLane() {
        for (int lane = 0; lane < 8; lane++) {
            StoryClasses x = new StoryClasses();
            for (int b = 0; b < 8; b++) {
                int get = ofOne(x, 12, 4, b);
                c.fails("12 NOTHING", x, get, 0, 0, NOTHING, 1);
                x.row(4, lane, 1);
                x.put(4, 0, 1);
                if (b == lane) {
                    c.gives("12 " + lane + " held as " + b, x, get, 0, 0, 1);
                } else {
                    c.fails("12 " + lane + " held as " + b, x, get, 0, 0, CAST, 1);
                }
                x.miss(4);
            }
        }
        for (int lane = 0; lane < 8; lane++) {
            StoryClasses x = new StoryClasses();
            for (int b = 0; b < 8; b++) {
                int set = doing(x, 13, 4, b);
                c.fails("13 NOTHING", x, set, 0, 1, NOTHING, 2);
                x.row(4, lane, 1);
                if (b == lane) {
                    c.gives("13 " + lane + " held as " + b, x, set, 0, 1, 77);
                } else {
                    c.fails("13 " + lane + " held as " + b, x, set, 0, 1, CAST, 2);
                }
                c.due("13 " + lane + " held as " + b, x.item(4, 0), b == lane ? 1 : 0);
                x.miss(4);
            }
        }
    }

    /** "13 of i, x: the ITEM becomes x": as something of its LANE. */
    private static void heldBecomes() {
        long[] given = {254, 255, 65535, 65535, 4294967295L, MIN, 16777217, 9007199254740993L};
        long[] held = {0, -1, -1, 65535, -1, MIN, 16777216, 9007199254740992L};
        for (int lane = 0; lane < 8; lane++) {
            StoryClasses x = new StoryClasses();
            x.row(0, lane, 12);
            int set = doing(x, 13, 0, lane);
            int get = ofOne(x, 12, 0, lane);
            for (int i = 0; i < 12; i += 11) {
                x.put(0, i, 1);
                c.gives("13 lane " + lane, x, set, i, given[lane], 77);
                c.due("13 lane " + lane, x.item(0, i), held[lane]);
                c.gives("12 lane " + lane, x, get, i, 0, held[lane]);
            }
        }
    }

    /** "13 ..: likewise": INDEX, and nothing has become anything then. */
    private static void heldBecomesRefused() {
        StoryClasses x = new StoryClasses();
        x.row(1, 5, 3);
        x.row(2, 5, 12);
        int r = doing(x, 13, 1, 5);
        for (long i : NO_INDEX_OF_3) {
            c.fails("13 INDEX " + i, x, r, i, 9, INDEX, 2);
        }
        for (int i = 0; i < 3; i++) {
            c.due("13 nothing changes", x.item(1, i), 0);
        }
        for (int i = 0; i < 12; i++) {
            c.due("13 nothing changes", x.item(2, i), 0);
        }
        c.gives("13 last", x, r, 2, 9, 77);
        c.due("13 last", x.item(1, 2), 9);
    }

    /** 12 and 13: "NOTHING .., CAST .., INDEX": the first that fits. */
    private static void heldOrder() {
        StoryClasses x = new StoryClasses();
        int get = ofOne(x, 12, 0, 4);
        int set = doing(x, 13, 0, 4);
        c.fails("12 NOTHING before INDEX", x, get, 99, 0, NOTHING, 1);
        c.fails("13 NOTHING before INDEX", x, set, 99, 0, NOTHING, 2);
        x.row(0, 5, 2);
        c.fails("12 CAST before INDEX", x, get, 2, 0, CAST, 1);
        c.fails("13 CAST before INDEX", x, set, -1, 0, CAST, 2);
    }

    /** "14 lays how many ITEMS ROW a has: NOTHING." */
    private static void size() {
        StoryClasses x = new StoryClasses();
        int first = Check.routine(x, 1, op(14, 0), op(20));
        int last = Check.routine(x, 1, op(14, 11), op(20));
        c.fails("14 NOTHING", x, first, 0, 0, NOTHING, 0);
        c.fails("14 NOTHING", x, last, 0, 0, NOTHING, 0);
        x.row(0, 4, 0);
        x.row(11, 4, 12);
        c.gives("14 none", x, first, 0, 0, 0);
        c.gives("14 twelve", x, last, 0, 0, 12);
        x.miss(11);
        c.fails("14 NOTHING", x, last, 0, 0, NOTHING, 0);
    }

    private static int making(StoryClasses x, int row, int lane) {
        return Check.routine(x, 1, op(1, 0), op(15, row, lane), op(0, 77), op(20));
    }

    /** "15 of n: ROW a becomes a new one of LANE b with n ITEMS (0)". */
    private static void newRow() {
        StoryClasses x = new StoryClasses();
        for (int lane = 0; lane < 8; lane++) {
            int r = making(x, 11, lane);
            for (int n = 0; n <= 12; n += 12) {
                c.gives("15 of " + n, x, r, n, 0, 77);
                c.due("15 ITEMS", x.about(11, 0), n);
                c.due("15 LANE", x.about(11, 1), lane);
            }
            c.due("15 last", x.put(11, 11, 1), 1);
            c.gives("15 again", x, r, 12, 0, 77);
            c.due("15 its items are 0", x.item(11, 11), 0);
        }
        x.share(0, 11);
        c.gives("15 a new one", x, 0, 5, 0, 77);
        c.due("15 the other place has the old one", x.about(0, 0), 12);
    }

    /** 15: "SIZE (below 0), ARGUMENT (above 12)". */
    private static void newRowRefused() {
        StoryClasses x = new StoryClasses();
        int r = making(x, 0, 4);
        x.row(0, 5, 7);
        for (long n : new long[] {-1, -13, -(1L << 32), MIN}) {
            c.fails("15 SIZE " + n, x, r, n, 0, SIZE, 1);
        }
        for (long n : new long[] {13, 14, 1L << 32, (1L << 32) + 1, MAX}) {
            c.fails("15 ARGUMENT " + n, x, r, n, 0, ARGUMENT, 1);
        }
        c.due("15 nothing changes", x.about(0, 0), 7);
        c.due("15 nothing changes", x.about(0, 1), 5);
        c.gives("15 least", x, r, 0, 0, 77);
        c.gives("15 most", x, r, 12, 0, 77);
    }

    /** "16 ROW a is MISSING then." */
    private static void missing() {
        StoryClasses x = new StoryClasses();
        for (int row = 0; row < 12; row += 11) {
            x.row(row, 4, 3);
            x.share(5, row);
            int r = Check.routine(x, 1, op(16, row), op(0, 77), op(20));
            c.gives("16", x, r, 0, 0, 77);
            c.due("16 MISSING then", x.about(row, 0), NONE);
            c.due("16 the other place stays", x.about(5, 0), 3);
            c.gives("16 it was", x, r, 0, 0, 77);
        }
    }

    /** "29 ROW a becomes ROW b (the same one)." */
    private static void sameRow() {
        StoryClasses x = new StoryClasses();
        x.row(11, 5, 3);
        int r = Check.routine(x, 1, op(29, 0, 11), op(0, 77), op(20));
        c.gives("29", x, r, 0, 0, 77);
        c.due("29 the same one", x.about(11, 2), 0);
        x.put(0, 1, 6);
        c.due("29 the same one", x.item(11, 1), 6);
        c.gives("29 it was", x, r, 0, 0, 77);
        c.due("29 it was", x.about(11, 2), 0);
        x.miss(11);
        c.gives("29 of a MISSING one", x, r, 0, 0, 77);
        c.due("29 MISSING", x.about(0, 0), NONE);
        int itself = Check.routine(x, 1, op(29, 3, 3), op(0, 77), op(20));
        x.row(3, 5, 2);
        x.put(3, 0, 8);
        c.gives("29 itself", x, itself, 0, 0, 77);
        c.due("29 itself", x.item(3, 0), 8);
    }

    /** 17: "NOTHING, INDEX". */
    private static void askedIndex() {
        StoryClasses x = new StoryClasses();
        int r = ofOne(x, 17, 11, 5);
        c.fails("17 NOTHING", x, r, 0, 0, NOTHING, 1);
        x.row(11, 4, 3);
        x.put(11, 0, 5);
        x.put(11, 2, -6);
        c.gives("17 first", x, r, 0, 0, 5);
        c.gives("17 last", x, r, 2, 0, -6);
        for (long i : NO_INDEX_OF_3) {
            c.fails("17 INDEX " + i, x, r, i, 0, INDEX, 1);
        }
    }

    /** "(1 goes INTO 2, 4, 5, 6, 7; 2 INTO 4 to 7; 3 INTO 4 to 7; 4 INTO 5 to 7; 5 INTO 6, 7; 6 INTO 7.)" */
    private static boolean goesInto(int from, int to) {
        String[] into = {"", "24567", "4567", "4567", "567", "67", "7", ""};
        return into[from].indexOf('0' + to) >= 0;
    }

    /** 17: "ARGUMENT, unless b is its LANE, or its LANE is 1 to 6 and goes INTO b." */
    private static void askedLanes() {
        for (int lane = 0; lane < 8; lane++) {
            StoryClasses x = new StoryClasses();
            x.row(0, lane, 1);
            x.put(0, 0, 1);
            for (int b = 0; b < 8; b++) {
                int r = ofOne(x, 17, 0, b);
                if (b == lane || goesInto(lane, b)) {
                    c.gives("17 " + lane + " as " + b, x, r, 0, 0, 1);
                } else {
                    c.fails("17 " + lane + " as " + b, x, r, 0, 0, ARGUMENT, 1);
                }
            }
        }
    }

    private static void asks(int lane, long held, int b, long want) {
        StoryClasses x = new StoryClasses();
        x.row(0, lane, 1);
        x.put(0, 0, held);
        c.gives("17 " + held + " of " + lane + " as " + b, x, ofOne(x, 17, 0, b), 0, 0, want);
    }

    /** 17: "(as something of LANE b, then as a number)". */
    private static void askedAsNumber() {
        for (int b = 2; b < 8; b++) {
            if (b != 3) {
                asks(1, -128, b, -128);
                asks(1, 255, b, -1);
            }
        }
        for (int b = 4; b < 8; b++) {
            asks(2, -32768, b, -32768);
            asks(3, 65535, b, 65535);
            asks(3, -1, b, 65535);
        }
        asks(4, Integer.MIN_VALUE, 5, Integer.MIN_VALUE);
        asks(4, 16777217, 6, 16777216);
        asks(4, 16777219, 6, 16777220);
        asks(4, Integer.MAX_VALUE, 6, 1L << 31);
        asks(4, Integer.MAX_VALUE, 7, Integer.MAX_VALUE);
        asks(5, 9007199254740993L, 7, 9007199254740992L);
        asks(5, (1L << 60) + (1L << 36) + 1, 6, (1L << 60) + (1L << 37));
        for (int b = 6; b <= 7; b++) {
            asks(5, MAX, b, MAX);
            asks(5, MIN, b, MIN);
            asks(6, MAX, b, MAX);
            asks(6, MIN, b, MIN);
            asks(6, 16777217, b, 16777216);
        }
        asks(7, MAX, 7, MAX);
        asks(0, 3, 0, 1);
    }

    /** 17: "NOTHING, INDEX, ARGUMENT": the first that fits. */
    private static void askedOrder() {
        StoryClasses x = new StoryClasses();
        int r = ofOne(x, 17, 0, 3);
        c.fails("17 NOTHING before INDEX", x, r, -1, 0, NOTHING, 1);
        x.row(0, 7, 2);
        c.fails("17 INDEX before ARGUMENT", x, r, 2, 0, INDEX, 1);
        c.fails("17 INDEX before ARGUMENT", x, r, -1, 0, INDEX, 1);
        c.fails("17 ARGUMENT", x, r, 1, 0, ARGUMENT, 1);
    }

    /** 18: "NOTHING, INDEX". */
    private static void putIndex() {
        StoryClasses x = new StoryClasses();
        int r = doing(x, 18, 11, 4);
        c.fails("18 NOTHING", x, r, 0, 1, NOTHING, 2);
        x.row(11, 5, 3);
        for (long i : NO_INDEX_OF_3) {
            c.fails("18 INDEX " + i, x, r, i, 9, INDEX, 2);
        }
        c.due("18 nothing changes", x.item(11, 0) + x.item(11, 1) + x.item(11, 2), 0);
        c.gives("18 first", x, r, 0, 5, 77);
        c.gives("18 last", x, r, 2, 6, 77);
        c.due("18 first", x.item(11, 0), 5);
        c.due("18 last", x.item(11, 2), 6);
    }

    /** 18: "ARGUMENT, unless b is its LANE or goes INTO it." */
    private static void putLanes() {
        for (int lane = 0; lane < 8; lane++) {
            StoryClasses x = new StoryClasses();
            for (int b = 0; b < 8; b++) {
                x.row(0, lane, 1);
                int r = doing(x, 18, 0, b);
                boolean goes = b == lane || goesInto(b, lane);
                if (goes) {
                    c.gives("18 " + b + " into " + lane, x, r, 0, 1, 77);
                } else {
                    c.fails("18 " + b + " into " + lane, x, r, 0, 1, ARGUMENT, 2);
                }
                c.due("18 " + b + " into " + lane, x.item(0, 0), goes ? 1 : 0);
            }
        }
    }

    private static void puts(int b, long given, int lane, long want) {
        StoryClasses x = new StoryClasses();
        x.row(0, lane, 1);
        c.gives("18 " + given, x, doing(x, 18, 0, b), 0, given, 77);
        c.due("18 " + given + " as " + b + " into " + lane, x.item(0, 0), want);
    }

    /** 18: "x as something of LANE b is PUT into the ITEM, as that number". */
    private static void putAsNumber() {
        for (int lane = 1; lane < 8; lane++) {
            if (lane != 3) {
                puts(1, 128, lane, -128);
                puts(1, 256, lane, 0);
            }
        }
        for (int lane = 4; lane < 8; lane++) {
            puts(2, 32768, lane, -32768);
            puts(3, -1, lane, 65535);
            puts(3, 65536, lane, 0);
        }
        puts(4, 1L << 31, 5, Integer.MIN_VALUE);
        puts(4, 1L << 32, 7, 0);
        puts(4, 16777217, 6, 16777216);
        puts(5, 9007199254740993L, 7, 9007199254740992L);
        puts(5, (1L << 60) + (1L << 36) + 1, 6, (1L << 60) + (1L << 37));
        puts(6, 16777217, 7, 16777216);
        puts(6, MAX, 7, MAX);
        puts(7, 16777217, 7, 16777217);
        puts(7, MAX, 7, MAX);
        puts(7, MIN, 7, MIN);
        puts(0, 2, 0, 0);
        puts(0, -1, 0, 1);
    }

    /** 18: "NOTHING, INDEX, ARGUMENT": the first that fits. */
    private static void putOrder() {
        StoryClasses x = new StoryClasses();
        int r = doing(x, 18, 0, 7);
        c.fails("18 NOTHING before INDEX", x, r, -1, 0, NOTHING, 2);
        x.row(0, 6, 2);
        c.fails("18 INDEX before ARGUMENT", x, r, 2, 0, INDEX, 2);
        c.fails("18 INDEX before ARGUMENT", x, r, -1, 0, INDEX, 2);
        c.fails("18 ARGUMENT", x, r, 1, 0, ARGUMENT, 2);
    }

    /** "19 takes b numbers and calls ROUTINE a: they are its LOCALS 0, 1, .. (others are 0)". */
    private static void callLocals() {
        for (int b = 0; b <= 6; b++) {
            StoryClasses x = new StoryClasses();
            int[][] telling = new int[14][];
            for (int k = 0; k < 6; k++) {
                telling[2 * k] = op(1, k);
                telling[2 * k + 1] = op(26);
            }
            telling[12] = op(0, 0);
            telling[13] = op(20);
            int callee = Check.routine(x, 6, telling);
            // A call with six numbers first, and a seventh that is taken off: the second call sees none of them.
            int caller = Check.routine(x, 1, Check.onPile(6, op(19, callee, 6), op(26), op(0, 1), op(0, 2), op(0, 3),
                op(0, 4), op(0, 5), op(0, 6), op(0, 7), op(26), op(19, callee, b), op(20)));
            c.gives("19 of " + b, x, caller, 0, 0, 0);
            for (int k = 0; k < 6; k++) {
                c.due("19 of 6: LOCAL " + k, x.output(k), k + 1);
                c.due("19 of " + b + ": LOCAL " + k, x.output(8 + k), k < b ? 6 - b + k + 1 : 0);
            }
        }
    }

    /** 19: "NOTHING (no such ROUTINE, or it has no OPS)". */
    private static void callNothing() {
        StoryClasses x = new StoryClasses();
        int r = Check.routine(x, 1, op(19, 1, 0), op(20));
        int last = Check.routine(x, 1);
        int s = Check.routine(x, 1, op(19, 11, 0), op(20));
        c.fails("19 no OPS", x, r, 0, 0, NOTHING, 0);
        c.fails("19 no such", x, s, 0, 0, NOTHING, 0);
        c.due("19 none was open", x.told(7), 1);
        x.op(last, 0, 9, 0);
        x.op(last, 20, 0, 0);
        c.gives("19 it has OPS now", x, r, 0, 0, 9);
        for (int k = 3; k < 12; k++) {
            c.fails("19 no such yet", x, s, 0, 0, NOTHING, 0);
            Check.routine(x, 1, op(0, k), op(20));
        }
        c.gives("19 it came", x, s, 0, 0, 11);
        StoryClasses y = new StoryClasses();
        int next = Check.routine(y, 1, op(19, 1, 0));
        c.fails("19 the number behind the last", y, next, 0, 0, NOTHING, 0);
    }

    /** 19: "ARGUMENT (b is above its LOCALS)". */
    private static void callArgument() {
        for (int locals = 1; locals <= 6; locals++) {
            StoryClasses x = new StoryClasses();
            int callee = Check.routine(x, locals, op(0, 9), op(20));
            c.returns("19 as many", x, 9, Check.onPile(6, op(19, callee, locals), op(20)));
            c.returns("19 one less", x, 9, Check.onPile(6, op(19, callee, locals - 1), op(20)));
            if (locals < 6) {
                c.faults("19 one more", x, ARGUMENT, 6, Check.onPile(6, op(19, callee, locals + 1), op(20)));
                c.faults("19 six", x, ARGUMENT, 6, Check.onPile(6, op(19, callee, 6), op(20)));
                c.due("19 none was open", x.told(7), 1);
            }
        }
    }

    /** 19: "PILE (too few; or b is 0 and there are 8)". */
    private static void callPile() {
        StoryClasses x = new StoryClasses();
        int callee = Check.routine(x, 1, op(0, 9), op(26), op(0, 9), op(20));
        c.returns("19 of 0 on 7", x, 9, Check.onPile(7, op(19, callee, 0), op(20)));
        c.faults("19 of 0 on 8", x, PILE, 8, Check.onPile(8, op(19, callee, 0), op(20)));
        c.due("19 it was not called", x.count(3, 0), 0);
        c.due("19 it was not open", x.told(7), 1);
        c.returns("19 of 1 on 8", x, 9, Check.onPile(8, op(19, callee, 1), op(20)));
        c.faults("19 of 1 on 0", x, PILE, 0, op(19, callee, 1));
    }

    /** 19: "DEEP (12 are open)". */
    private static void callDeep() {
        StoryClasses x = new StoryClasses();
        // Routine 0 calls itself as often as it is told.
        Check.routine(x, 1, op(1, 0), op(11, 7), op(1, 0), op(0, 1), op(4), op(19, 0, 1), op(20), op(0, 3), op(20));
        c.gives("19 the 11th call", x, 0, 11, 0, 3);
        c.due("19 12 are open", x.told(7), 12);
        c.fails("19 the 12th call", x, 0, 12, 0, DEEP, 5);
        c.due("19 12 are open", x.told(7), 12);
        c.due("19 one fault", x.told(4), 1);
        c.gives("19 again", x, 0, 10, 0, 3);
        c.due("19 11 are open", x.told(7), 11);
        // Calls one after another are not deep.
        int[][] many = new int[30][];
        for (int i = 0; i < 14; i++) {
            many[2 * i] = op(19, 1, 0);
            many[2 * i + 1] = op(26);
        }
        many[28] = op(0, 5);
        many[29] = op(20);
        Check.routine(x, 1, op(0, 3), op(20));
        c.returns("19 one after another", x, 5, many);
        c.due("19 2 are open", x.told(7), 2);
    }

    /** 19: "PILE .., NOTHING .., ARGUMENT .., DEEP": the first that fits. */
    private static void callOrder() {
        StoryClasses x = new StoryClasses();
        int none = x.routine(1);
        int one = Check.routine(x, 1, op(0, 1), op(20));
        c.faults("19 too few, no such", x, PILE, 0, op(19, 11, 1));
        c.faults("19 8, no such", x, PILE, 8, Check.onPile(8, op(19, 11, 0)));
        c.faults("19 too few, too many", x, PILE, 1, Check.onPile(1, op(19, one, 2)));
        c.faults("19 no OPS, too many", x, NOTHING, 2, Check.onPile(2, op(19, none, 2)));
        atTwelve("19 DEEP", DEEP, 5, op(0, 1), op(19, 1, 1));
        atTwelve("19 too few, DEEP", PILE, 5, op(10, 5), op(19, 1, 1));
        atTwelve("19 8, DEEP", PILE, 12, Check.onPile(8, op(19, 1, 0)));
        atTwelve("19 no such, DEEP", NOTHING, 5, op(10, 5), op(19, 11, 0));
        atTwelve("19 too many, DEEP", ARGUMENT, 6, op(0, 1), op(0, 1), op(19, 1, 2));
    }

    /** Routine 0 calls itself until 12 are open, and then, at the guard's handler, does these ops from place 4 on. */
    private static void atTwelve(String what, int code, int place, int[]... ops) {
        StoryClasses x = new StoryClasses();
        int[][] first = {op(19, 0, 0), op(20), op(26), op(26)};
        int[][] all = new int[4 + ops.length][];
        System.arraycopy(first, 0, all, 0, 4);
        System.arraycopy(ops, 0, all, 4, ops.length);
        Check.routine(x, 1, all);
        Check.routine(x, 1, op(0, 1), op(20));
        x.guard(0, 0, 1, DEEP, 2);
        // The twelfth takes DEEP; the fault that comes then is taken by none, unless it is DEEP again.
        if (code == DEEP) {
            c.due(what, x.run(0, 0, 0), 1);
            c.due(what + ": where 11 are open it calls, and goes behind", x.told(0), BEHIND);
            c.due(what + ": DEEP, DEEP again, BEHIND", x.told(4), 3);
        } else {
            c.fails(what, x, 0, 0, 0, code, place);
            c.due(what + ": where 12 are open, not where 11 are", x.told(4), 2);
        }
        c.due(what + ": open", x.told(7), 12);
    }

    /** "20 RETURNS x." */
    private static void returnsAny() {
        StoryClasses x = new StoryClasses();
        int r = Check.routine(x, 1, op(0, 4), op(1, 0), op(20), op(0, 5));
        for (long n : new long[] {0, 1, -1, 1L << 32, MIN, MAX}) {
            c.gives("20", x, r, n, 0, n);
        }
        c.due("20 it ends there", x.told(3), 3);
        c.returns("20 as the last op", x, 1, op(0, 1), op(20));
    }

    /** "21 of x: OWN with x." */
    private static void ownAny() {
        StoryClasses x = new StoryClasses();
        int r = Check.routine(x, 1, op(0, 4), op(1, 0), op(21), op(0, 5));
        for (long n : new long[] {0, 1, -1, 1L << 32, MIN, MAX}) {
            c.fails("21", x, r, n, 0, OWN, 2);
            c.due("21 NUMBER", x.number(), n);
        }
    }

    /** "26 of x: to THE OUTPUT (60; others are lost)." */
    private static void outputHolds60() {
        StoryClasses x = new StoryClasses();
        // As many as LOCAL 0 tells, counting down; 11 goes on to the end at 0.
        int r = Check.routine(x, 1, op(1, 0), op(26), op(1, 0), op(0, 1), op(4), op(2, 0), op(1, 0), op(11, 9),
            op(10, 0), op(0, 5), op(20));
        c.gives("26 of 3", x, r, 3, 0, 5);
        c.due("18 three", x.count(3, 0), 3);
        c.due("18 the last", x.output(2), 1);
        c.due("18 none behind it", x.output(3), 0);
        // Nine calls of six are 54, another makes 60; then there is one more.
        int six = Check.routine(x, 1, op(1, 0), op(26), op(1, 0), op(26), op(1, 0), op(26), op(1, 0), op(26), op(1, 0),
            op(26), op(1, 0), op(26), op(0, 0), op(20));
        int[][] calls = new int[28][];
        for (int i = 0; i < 8; i++) {
            calls[3 * i] = op(0, i + 1);
            calls[3 * i + 1] = op(19, six, 1);
            calls[3 * i + 2] = op(2, 0);
        }
        calls[24] = op(0, 9);
        calls[25] = op(19, six, 1);
        calls[26] = op(1, 0);
        calls[27] = op(20);
        int most = Check.routine(x, 1, calls);
        c.gives("26 of 54", x, most, 0, 0, 0);
        c.due("18 how many", x.count(3, 0), 54);
        int more = Check.routine(x, 2, op(19, most, 0), op(0, 100), op(19, six, 1), op(1, 0), op(11, 7), op(0, 101),
            op(26), op(0, 8), op(20));
        c.gives("26 of 60", x, more, 0, 0, 8);
        c.due("18 60", x.count(3, 0), 60);
        c.due("18 the 60th", x.output(59), 100);
        c.gives("26 of 61", x, more, 1, 0, 8);
        c.due("18 60", x.count(3, 0), 60);
        c.due("18 the 60th stays", x.output(59), 100);
        c.due("18 the first stays", x.output(0), 1);
        c.due("18 the 61st is lost", x.output(60), 0);
        c.gives("26 of 3 again", x, r, 3, 0, 5);
        c.due("18 the older ones are gone", x.output(3), 0);
    }
}
