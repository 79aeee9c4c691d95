/**
 * Promises 10 to 13 and 19, and what part 3 of the document's terms tells of routines and of their pile: each sentence
 * that names an edge has a method of its own, with the sentence above it. The ops by themselves: EdgesOfOpsTest.
 */
public final class EdgesOfRoutinesTest {
    private static final int BAD = Check.BAD, FULL = Check.FULL, NONE = Check.NONE;
    private static final int PILE = Check.PILE, BEHIND = Check.BEHIND, OWN = Check.OWN;
    private static final int LOW = Integer.MIN_VALUE, HIGH = Integer.MAX_VALUE;
    private static final Check c = new Check();

    public static void main(String[] args) {
        twelveRoutines();
        localsAre1To6();
        thirtyOps();
        thirtyOpsRun();
        fourGuards();
        fourGuardsTake();
        aPlaceForLast();
        pileHolds8();
        tooFew();
        tooFewOfCalls();
        takesAndLays();
        layingOn8();
        whatItDidStays();
        faultsBeforeLaying();
        orderOfLaying();
        opNoRoutine();
        opIs0To29();
        opLocal();
        opPlace();
        opRow();
        opCall();
        opMessage();
        opLane();
        opOtherNumbersAreFree();
        guardPlaces();
        guardCode();
        guardHandler();
        guardNoRoutine();
        lastPlace();
        lastNoRoutine();
        countWhat();
        countOfRoutine();
        c.end();
    }

    private static int[] op(int... numbers) {
        return Check.op(numbers);
    }

    /** "ROUTINES (12)"; promise 10: "FULL." */
    private static void twelveRoutines() {
        StoryClasses x = new StoryClasses();
        for (int i = 0; i < 12; i++) {
            c.due("10 before", x.count(4, i), BAD);
            c.due("10 number", x.routine(1 + i % 6), i);
            c.due("10 how many", x.count(1, 0), i + 1);
            c.due("10 op", x.op(i, 0, i, 0), 0);
            c.due("10 op", x.op(i, 20, 0, 0), 1);
        }
        c.due("10 the 13th", x.routine(1), FULL);
        c.due("10 the 13th", x.routine(6), FULL);
        c.due("10 BAD before FULL", x.routine(0), BAD);
        c.due("10 BAD before FULL", x.routine(7), BAD);
        c.due("10 how many", x.count(1, 0), 12);
        for (int i = 0; i < 12; i++) {
            c.gives("10 each its own", x, i, 0, 0, i);
        }
    }

    /** "LOCALS (1 to 6)"; promise 10: "BAD". */
    private static void localsAre1To6() {
        StoryClasses x = new StoryClasses();
        for (int locals : new int[] {0, 7, -1, LOW, HIGH}) {
            c.due("10 locals " + locals, x.routine(locals), BAD);
        }
        c.due("10 none came", x.count(1, 0), 0);
        c.due("10 least", x.routine(1), 0);
        c.due("10 most", x.routine(6), 1);
        c.due("19 least", x.count(4, 0), 1);
        c.due("19 most", x.count(4, 1), 6);
        for (int k = 0; k < 6; k++) {
            x.op(1, 0, 70 + k, 0);
            x.op(1, 2, k, 0);
        }
        for (int k = 0; k < 6; k++) {
            x.op(1, 1, k, 0);
            x.op(1, 26, 0, 0);
        }
        c.due("10 all six hold", x.run(1, 5, 6), 1);
        for (int k = 0; k < 6; k++) {
            c.due("10 all six hold", x.output(k), 70 + k);
        }
    }

    /** "OPS at places 0, 1, .. (30)"; promise 11: "An OP more: its place. .. FULL." */
    private static void thirtyOps() {
        StoryClasses x = new StoryClasses();
        x.routine(1);
        x.routine(1);
        for (int i = 0; i < 30; i++) {
            c.due("11 place", x.op(1, i % 2 == 0 ? 0 : 26, 5, 0), i);
            c.due("19 ops", x.count(5, 1), i + 1);
        }
        c.due("11 the 31st", x.op(1, 0, 0, 0), FULL);
        c.due("11 the 31st", x.op(1, 29, 11, 11), FULL);
        c.due("11 BAD before FULL", x.op(1, 30, 0, 0), BAD);
        c.due("11 BAD before FULL", x.op(1, 1, 1, 0), BAD);
        c.due("11 BAD before FULL", x.op(1, 12, 0, 8), BAD);
        c.due("19 ops", x.count(5, 1), 30);
        c.due("11 the other's", x.op(0, 0, 0, 0), 0);
    }

    /** All thirty ops are done, and behind the 30th there is none. */
    private static void thirtyOpsRun() {
        StoryClasses x = new StoryClasses();
        int r = x.routine(1);
        for (int i = 0; i < 15; i++) {
            x.op(r, 0, i, 0);
            x.op(r, 26, 0, 0);
        }
        c.fails("behind the 30th", x, r, 0, 0, BEHIND, 29);
        c.due("all were done", x.told(3), 30);
        c.due("all were done", x.output(14), 14);
        StoryClasses y = new StoryClasses();
        int s = y.routine(1);
        y.op(s, 10, 28, 0);
        for (int i = 1; i < 29; i++) {
            y.op(s, 0, i, 0);
        }
        y.op(s, 20, 0, 0);
        c.gives("the 30th is one", y, s, 0, 0, 28);
    }

    /** "GUARDS (4)"; promise 12: "A GUARD more: its number. .. FULL." */
    private static void fourGuards() {
        StoryClasses x = new StoryClasses();
        x.routine(1);
        x.routine(1);
        for (int i = 0; i < 4; i++) {
            c.due("12 number", x.guard(1, i, 30, i, i), i);
            c.due("19 guards", x.count(6, 1), i + 1);
        }
        c.due("12 the 5th", x.guard(1, 0, 30, 0, 0), FULL);
        c.due("12 BAD before FULL", x.guard(1, 0, 31, 0, 0), BAD);
        c.due("12 BAD before FULL", x.guard(1, 0, 30, 13, 0), BAD);
        c.due("12 BAD before FULL", x.guard(1, 0, 30, 0, 30), BAD);
        c.due("19 guards", x.count(6, 1), 4);
        c.due("12 the other's", x.guard(0, 0, 1, 0, 0), 0);
    }

    /** The 4th guard takes as the first does; a 5th that was refused does not. */
    private static void fourGuardsTake() {
        StoryClasses x = new StoryClasses();
        int r = Check.routine(x, 1, op(1, 0), op(21), op(0, 8), op(20));
        for (int i = 0; i < 3; i++) {
            x.guard(r, 1, 2, Check.ZERO, 2);
        }
        c.fails("three that do not take", x, r, 3, 0, OWN, 1);
        x.guard(r, 1, 2, OWN, 2);
        c.gives("the 4th takes", x, r, 3, 0, 8);
        StoryClasses y = new StoryClasses();
        int s = Check.routine(y, 1, op(1, 0), op(21), op(0, 8), op(20));
        for (int i = 0; i < 4; i++) {
            y.guard(s, 1, 2, Check.ZERO, 2);
        }
        c.due("12 the 5th", y.guard(s, 1, 2, OWN, 2), FULL);
        c.fails("the 5th is none", y, s, 3, 0, OWN, 1);
    }

    /** "and perhaps a place at which their LAST begins": each routine its own. */
    private static void aPlaceForLast() {
        StoryClasses x = new StoryClasses();
        int with = Check.routine(x, 1, op(0, 1), op(20), op(0, 2), op(20));
        int without = Check.routine(x, 1, op(0, 1), op(20), op(0, 2), op(20));
        x.last(with, 2);
        c.gives("LAST", x, with, 0, 0, 2);
        c.gives("no LAST", x, without, 0, 0, 1);
    }

    /** "a PILE of numbers (8)": the 8th is laid, the 9th is not. */
    private static void pileHolds8() {
        StoryClasses x = new StoryClasses();
        int[][] eight = Check.onPile(8, op(26), op(26), op(26), op(26), op(26), op(26), op(26), op(26), op(26));
        c.faults("8 are laid and taken, no 9th is", x, PILE, 16, eight);
        for (int i = 0; i < 8; i++) {
            c.due("the latest first", x.output(i), 8 - i);
        }
        c.due("8 in all", x.count(3, 0), 8);
        c.faults("the 9th", x, PILE, 8, Check.onPile(9, op(20)));
        // Each that is open has its own pile.
        int callee = Check.routine(x, 1, Check.onPile(8, op(20)));
        c.returns("8 here, 8 there", x, 15, Check.onPile(8, op(19, callee, 1), op(3), op(20)));
    }

    private static final int[] TAKES = {0, 0, 1, 2, 2, 2, 2, 2, 2, 2, 0, 1, 1, 2, 0, 1, 0, 1, 2, 0, 1, 1, 0, 1, 3, 2, 1,
        0, 0, 0};

    /** "PILE: there are too few", of each op: with one number less than it takes, and with as many. */
    private static void tooFew() {
        for (int op = 0; op < 30; op++) {
            for (int laid = 0; laid <= TAKES[op]; laid++) {
                StoryClasses x = new StoryClasses();
                x.thing(0);
                x.row(0, 0, 8);
                int r = Check.routine(x, 1, Check.onPile(laid, op(op, op == 19 ? 1 : 0)));
                Check.routine(x, 1, op(0, 1), op(20));
                x.run(r, 0, 0);
                String what = "op " + op + " on " + laid;
                c.due(what, x.told(0) == PILE ? 1 : 0, laid < TAKES[op] ? 1 : 0);
                c.due(what + ": steps", x.told(3) >= laid + 1 ? 1 : 0, 1);
                if (laid < TAKES[op]) {
                    c.due(what + ": place", x.told(2), laid);
                }
            }
        }
    }

    /** 19: "PILE (too few; ..": of 0 to 6 numbers. */
    private static void tooFewOfCalls() {
        for (int b = 0; b <= 6; b++) {
            for (int laid = 0; laid <= b; laid++) {
                StoryClasses x = new StoryClasses();
                int callee = Check.routine(x, 6, op(0, 44), op(20));
                int[][] ops = Check.onPile(laid, op(19, callee, b), op(20));
                if (laid < b) {
                    c.faults("19 of " + b + " on " + laid, x, PILE, laid, ops);
                } else {
                    c.returns("19 of " + b + " on " + laid, x, 44, ops);
                }
            }
        }
    }

    /** "takes from the PILE ..; then it lays something": as many as told lie there after each op, and no more. */
    private static void takesAndLays() {
        // The ops that go on, with how many they take and lay.
        int[][] rows = {{0, 0, 1}, {1, 0, 1}, {2, 1, 0}, {3, 2, 1}, {4, 2, 1}, {5, 2, 1}, {6, 2, 1}, {7, 2, 1},
            {8, 2, 1}, {9, 2, 1}, {10, 0, 0}, {11, 1, 0}, {12, 1, 1}, {13, 2, 0}, {14, 0, 1}, {15, 1, 0}, {16, 0, 0},
            {17, 1, 1}, {18, 2, 0}, {19, 0, 1}, {23, 1, 1}, {24, 3, 0}, {25, 2, 1}, {26, 1, 0}, {27, 0, 1},
            {28, 0, 1}, {29, 0, 0}};
        for (int[] row : rows) {
            for (int laid = row[1]; laid <= 7; laid++) {
                StoryClasses x = new StoryClasses();
                Check.routine(x, 1, op(0, 1), op(20));
                x.row(0, 0, 8);
                for (int t = 0; t < 8; t++) {
                    x.thing(0);
                }
                int[] done = op(row[0], row[0] == 10 || row[0] == 11 ? laid + 1 : 0);
                int[][] ops = Check.onPile(laid, done, op(26), op(26), op(26), op(26), op(26), op(26), op(26), op(26),
                    op(26));
                // The first number that each op looks at is one that it can have.
                for (int i = 0; i < laid; i++) {
                    ops[i] = op(0, 1);
                }
                int left = laid - row[1] + row[2];
                c.faults("op " + row[0] + " on " + laid, x, PILE, laid + 1 + left, ops);
                c.due("op " + row[0] + " on " + laid + ": told", x.count(3, 0), left + (row[0] == 26 ? 1 : 0));
            }
        }
    }

    private static final int[][] LAYING = {op(0, 5), op(1, 0), op(14, 0), op(27), op(28), op(19, 0, 0)};

    /** "then it lays something (PILE: there are 8 ..)", of each op that lays without taking. */
    private static void layingOn8() {
        for (int[] laying : LAYING) {
            for (int laid = 7; laid <= 8; laid++) {
                StoryClasses x = new StoryClasses();
                Check.routine(x, 1, op(0, 5), op(20));
                x.row(0, 4, 3);
                int[][] ops = Check.onPile(laid, laying, op(26), op(0, 9), op(20));
                if (laid == 7) {
                    c.returns("op " + laying[0] + " on 7", x, 9, ops);
                } else {
                    c.faults("op " + laying[0] + " on 8", x, PILE, 8, ops);
                }
            }
        }
        // Those that take first have room then.
        int[][] taking = {op(3), op(4), op(5), op(6), op(7), op(8), op(9), op(12, 0, 4), op(17, 0, 4), op(19, 0, 1),
            op(23, 0), op(23, 1), op(25)};
        for (int[] take : taking) {
            StoryClasses x = new StoryClasses();
            Check.routine(x, 1, op(0, 5), op(20));
            x.row(0, 4, 12);
            for (int t = 0; t < 12; t++) {
                x.thing(0);
            }
            int[][] ops = Check.onPile(8, take, op(26), op(0, 9), op(20));
            ops[7] = op(0, 1);
            c.returns("op " + take[0] + " on 8 takes first", x, 9, ops);
        }
    }

    /** "(PILE: there are 8; what it did stays)". */
    private static void whatItDidStays() {
        StoryClasses x = new StoryClasses();
        x.row(0, 4, 3);
        int keep = Check.routine(x, 1, Check.onPile(8, op(27)));
        int back = Check.routine(x, 1, Check.onPile(8, op(28)));
        c.fails("27 on 8", x, keep, 0, 0, PILE, 8);
        c.due("27 it is kept", x.count(2, 0), 1);
        x.row(0, 4, 5);
        c.fails("28 on 8", x, back, 0, 0, PILE, 8);
        c.due("28 it went", x.count(2, 0), 0);
        c.due("28 all became again", x.about(0, 0), 3);
        // Of the output, and of memory: what was done before BEHIND stays, too.
        c.faults("15 BEHIND", x, BEHIND, 1, op(0, 7), op(15, 0, 4));
        c.due("15 stays", x.about(0, 0), 7);
    }

    /** "then come its FAULTS, as told; then what it does; then it lays something (PILE ..". */
    private static void faultsBeforeLaying() {
        StoryClasses x = new StoryClasses();
        c.faults("14 NOTHING, not PILE", x, Check.NOTHING, 8, Check.onPile(8, op(14, 0)));
        int keep = Check.routine(x, 1, op(27), op(20));
        for (int i = 1; i <= 3; i++) {
            c.gives("27", x, keep, 0, 0, i);
        }
        c.faults("27 ARGUMENT, not PILE", x, Check.ARGUMENT, 8, Check.onPile(8, op(27)));
    }

    /** "(x, y, i, n, s, t are told in the order in which they were laid)". */
    private static void orderOfLaying() {
        StoryClasses x = new StoryClasses();
        c.returns("4 x - y", x, 5, op(0, 8), op(0, 3), op(4), op(20));
        c.returns("6 x / y", x, 2, op(0, 8), op(0, 3), op(6), op(20));
        c.returns("7 x % y", x, 3, op(0, 3), op(0, 8), op(7), op(20));
        c.returns("8 x below y", x, 1, op(0, 3), op(0, 8), op(8), op(20));
        x.row(0, 5, 2);
        c.faults("13 of i, x", x, BEHIND, 2, op(0, 1), op(0, 9), op(13, 0, 5));
        c.due("13 of i, x", x.item(0, 1), 9);
        c.faults("18 of i, x", x, BEHIND, 2, op(0, 0), op(0, 8), op(18, 0, 5));
        c.due("18 of i, x", x.item(0, 0), 8);
        x.thing(0);
        x.thing(0);
        x.thing(0);
        c.faults("24 of s, i, t", x, BEHIND, 3, op(0, 0), op(0, 1), op(0, 2), op(24));
        c.due("24 of s, i, t", x.of(0, 6), 2);
        c.returns("25 of s, i", x, 2, op(0, 0), op(0, 1), op(25), op(20));
    }

    private static void refused(StoryClasses x, int op, int a, int b) {
        int ops = x.count(5, 0);
        c.due("11 op(" + op + ", " + a + ", " + b + ")", x.op(0, op, a, b), BAD);
        c.due("11 none came", x.count(5, 0), ops);
    }

    private static void taken(StoryClasses x, int op, int a, int b) {
        int ops = x.count(5, 0);
        c.due("11 op(" + op + ", " + a + ", " + b + ")", x.op(0, op, a, b), ops);
    }

    private static StoryClasses withRoutine(int locals) {
        StoryClasses x = new StoryClasses();
        x.routine(locals);
        return x;
    }

    /** Promise 11: "BAD: no such ROUTINE". */
    private static void opNoRoutine() {
        StoryClasses x = new StoryClasses();
        c.due("11 none", x.op(0, 0, 0, 0), BAD);
        x.routine(1);
        x.routine(1);
        c.due("11 the last", x.op(1, 0, 0, 0), 0);
        for (int r : new int[] {-1, 2, 11, 12, LOW, HIGH}) {
            c.due("11 no such " + r, x.op(r, 0, 0, 0), BAD);
        }
        c.due("11 the first", x.op(0, 0, 0, 0), 0);
    }

    /** Promise 11: "op is not 0 to 29". */
    private static void opIs0To29() {
        StoryClasses x = withRoutine(1);
        for (int op : new int[] {-1, 30, LOW, HIGH}) {
            refused(x, op, 0, 0);
        }
        for (int op = 0; op < 30; op++) {
            c.due("11 op " + op, x.op(0, op, 0, 0), op);
        }
    }

    /** Promise 11: "a of 1, 2 no LOCAL". */
    private static void opLocal() {
        for (int locals = 1; locals <= 6; locals++) {
            StoryClasses x = withRoutine(locals);
            for (int op = 1; op <= 2; op++) {
                taken(x, op, 0, 0);
                taken(x, op, locals - 1, 0);
                refused(x, op, locals, 0);
                refused(x, op, -1, 0);
                refused(x, op, LOW, 0);
                refused(x, op, HIGH, 0);
            }
        }
    }

    /** Promise 11: "of 10, 11 not 0 to 29". */
    private static void opPlace() {
        StoryClasses x = withRoutine(1);
        for (int op = 10; op <= 11; op++) {
            taken(x, op, 0, 0);
            taken(x, op, 29, 0);
            for (int a : new int[] {-1, 30, LOW, HIGH}) {
                refused(x, op, a, 0);
            }
        }
    }

    /** Promise 11: "of 12 to 18, 29 no ROW"; "b .. of 29 no ROW". */
    private static void opRow() {
        StoryClasses x = withRoutine(1);
        for (int op : new int[] {12, 13, 14, 15, 16, 17, 18, 29}) {
            taken(x, op, 0, 0);
            taken(x, op, 11, 0);
            for (int a : new int[] {-1, 12, LOW, HIGH}) {
                refused(x, op, a, 0);
            }
        }
        taken(x, 29, 0, 11);
        taken(x, 29, 11, 11);
        for (int b : new int[] {-1, 12, LOW, HIGH}) {
            refused(x, 29, 0, b);
        }
    }

    /** Promise 11: "a .. of 19 not 0 to 11"; "b .. of 19 not 0 to 6". */
    private static void opCall() {
        StoryClasses x = withRoutine(1);
        taken(x, 19, 0, 0);
        taken(x, 19, 11, 0);
        taken(x, 19, 0, 6);
        taken(x, 19, 11, 6);
        for (int a : new int[] {-1, 12, LOW, HIGH}) {
            refused(x, 19, a, 0);
        }
        for (int b : new int[] {-1, 7, LOW, HIGH}) {
            refused(x, 19, 0, b);
        }
    }

    /** Promise 11: "a .. of 23 not 0 to 8". */
    private static void opMessage() {
        StoryClasses x = withRoutine(1);
        for (int a = 0; a <= 8; a++) {
            taken(x, 23, a, -1);
        }
        for (int a : new int[] {-1, 9, LOW, HIGH}) {
            refused(x, 23, a, 0);
        }
    }

    /** Promise 11: "b of 12, 13, 15, 17, 18 no LANE". */
    private static void opLane() {
        StoryClasses x = withRoutine(1);
        for (int op : new int[] {12, 13, 15, 17, 18}) {
            taken(x, op, 0, 0);
            taken(x, op, 0, 7);
            for (int b : new int[] {-1, 8, LOW, HIGH}) {
                refused(x, op, 0, b);
            }
        }
    }

    /** Promise 11 asks nothing of the other numbers: they may be any. */
    private static void opOtherNumbersAreFree() {
        int[] freeA = {0, 3, 4, 5, 6, 7, 8, 9, 20, 21, 22, 24, 25, 26, 27, 28};
        int[] freeB = {0, 1, 2, 3, 4, 5, 6, 7, 8, 9, 10, 11, 14, 16, 20, 21, 22, 23, 24, 25, 26, 27, 28};
        for (int op : freeA) {
            StoryClasses x = withRoutine(1);
            for (int a : new int[] {-1, 12, 30, LOW, HIGH}) {
                taken(x, op, a, a);
            }
        }
        for (int op : freeB) {
            StoryClasses x = withRoutine(1);
            for (int b : new int[] {-1, 12, 30, LOW, HIGH}) {
                taken(x, op, 0, b);
            }
        }
        StoryClasses x = new StoryClasses();
        c.returns("0 lays the least a", x, LOW, op(0, LOW), op(20));
        c.returns("0 lays the greatest a", x, HIGH, op(0, HIGH), op(20));
    }

    /** Promise 12: "BAD: not 0 .. from below to .. 30". */
    private static void guardPlaces() {
        StoryClasses x = withRoutine(1);
        int[][] bad = {{-1, 1}, {-1, 30}, {0, 0}, {5, 5}, {6, 5}, {30, 30}, {0, 31}, {29, 31}, {30, 31}, {LOW, 30},
            {0, HIGH}, {HIGH, LOW}, {0, LOW}};
        for (int[] b : bad) {
            c.due("12 " + b[0] + " .. " + b[1], x.guard(0, b[0], b[1], 0, 0), BAD);
        }
        c.due("12 none came", x.count(6, 0), 0);
        int[][] good = {{0, 1}, {0, 30}, {29, 30}, {4, 5}};
        for (int i = 0; i < good.length; i++) {
            c.due("12 " + good[i][0] + " .. " + good[i][1], x.guard(0, good[i][0], good[i][1], 0, 0), i);
        }
    }

    /** Promise 12: "code is not 0 to 12". */
    private static void guardCode() {
        StoryClasses x = withRoutine(1);
        for (int code : new int[] {-1, 13, LOW, HIGH}) {
            c.due("12 code " + code, x.guard(0, 0, 1, code, 0), BAD);
        }
        c.due("12 least code", x.guard(0, 0, 1, 0, 0), 0);
        c.due("12 most code", x.guard(0, 0, 1, 12, 0), 1);
    }

    /** Promise 12: "handler not 0 to 29". */
    private static void guardHandler() {
        StoryClasses x = withRoutine(1);
        for (int handler : new int[] {-1, 30, LOW, HIGH}) {
            c.due("12 handler " + handler, x.guard(0, 0, 1, 0, handler), BAD);
        }
        c.due("12 least handler", x.guard(0, 0, 1, 0, 0), 0);
        c.due("12 most handler", x.guard(0, 0, 1, 0, 29), 1);
    }

    /** BAD: "no such thing", of promise 12. */
    private static void guardNoRoutine() {
        StoryClasses x = new StoryClasses();
        c.due("12 none", x.guard(0, 0, 1, 0, 0), BAD);
        x.routine(1);
        for (int r : new int[] {-1, 1, 11, 12, LOW, HIGH}) {
            c.due("12 no such " + r, x.guard(r, 0, 1, 0, 0), BAD);
        }
        c.due("12 the last", x.guard(0, 0, 1, 0, 0), 0);
    }

    /** Promise 13: "begins at a place (0 to 29), or there is none (NONE): what was told (NONE at first). BAD." */
    private static void lastPlace() {
        StoryClasses x = withRoutine(1);
        c.due("13 NONE at first", x.last(0, 0), NONE);
        c.due("13 least", x.last(0, 29), 0);
        for (int place : new int[] {-2, 30, LOW, HIGH}) {
            c.due("13 place " + place, x.last(0, place), BAD);
        }
        c.due("13 most", x.last(0, NONE), 29);
        c.due("13 none", x.last(0, NONE), NONE);
        c.due("13 none", x.last(0, 7), NONE);
        c.due("13 seven", x.last(0, 7), 7);
        x.routine(1);
        c.due("13 the other's", x.last(1, 3), NONE);
        c.due("13 the first's stays", x.last(0, 7), 7);
    }

    /** BAD: "no such thing", of promise 13. */
    private static void lastNoRoutine() {
        StoryClasses x = new StoryClasses();
        c.due("13 none", x.last(0, 0), BAD);
        x.routine(1);
        for (int r : new int[] {-1, 1, 11, 12, LOW, HIGH}) {
            c.due("13 no such " + r, x.last(r, 0), BAD);
            c.due("13 no such " + r, x.last(r, NONE), BAD);
        }
        c.due("13 nothing was told", x.last(0, 0), NONE);
    }

    /** Promise 19: "0 THINGS, 1 ROUTINES, 2 KEPT, 3 numbers of THE OUTPUT ..; BAD." */
    private static void countWhat() {
        StoryClasses x = new StoryClasses();
        int r = Check.routine(x, 1, op(0, 1), op(26), op(0, 1), op(26), op(0, 1), op(26), op(27), op(27), op(20));
        x.thing(0);
        x.run(r, 0, 0);
        for (int k : new int[] {0, -1, 12, LOW, HIGH}) {
            c.due("19 THINGS", x.count(0, k), 1);
            c.due("19 ROUTINES", x.count(1, k), 1);
            c.due("19 KEPT", x.count(2, k), 2);
            c.due("19 OUTPUT", x.count(3, k), 3);
        }
        for (int what : new int[] {-1, 7, LOW, HIGH}) {
            c.due("19 what " + what, x.count(what, 0), BAD);
        }
    }

    /** Promise 19: "of ROUTINE k: 4 LOCALS, 5 OPS, 6 GUARDS. BAD." */
    private static void countOfRoutine() {
        StoryClasses x = new StoryClasses();
        for (int what = 4; what <= 6; what++) {
            c.due("19 none", x.count(what, 0), BAD);
        }
        x.routine(1);
        x.routine(6);
        x.op(1, 0, 0, 0);
        x.op(1, 0, 0, 0);
        x.guard(1, 0, 1, 0, 0);
        int[] first = {1, 0, 0};
        int[] second = {6, 2, 1};
        for (int what = 4; what <= 6; what++) {
            c.due("19 the first", x.count(what, 0), first[what - 4]);
            c.due("19 the last", x.count(what, 1), second[what - 4]);
            for (int k : new int[] {-1, 2, 11, 12, LOW, HIGH}) {
                c.due("19 no such " + k, x.count(what, k), BAD);
            }
        }
    }
}
