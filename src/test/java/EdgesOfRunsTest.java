/**
 * Part 4 of the document's terms, and promises 14 to 18: each sentence that names an edge has a method of its own,
 * with the sentence above it.
 */
public final class EdgesOfRunsTest {
    private static final int BAD = Check.BAD, NONE = Check.NONE;
    private static final int ZERO = Check.ZERO, PILE = Check.PILE, DEEP = Check.DEEP, BEHIND = Check.BEHIND;
    private static final int OWN = Check.OWN;
    private static final int LOW = Integer.MIN_VALUE, HIGH = Integer.MAX_VALUE;
    private static final Check c = new Check();

    public static void main(String[] args) {
        numbersOfFaults();
        localsOfARun();
        steps();
        stepsInCalls();
        stepsAtAFault();
        spentInLast();
        faults24();
        faults25();
        faultsThatComeOn();
        faultsThatLeaveLetsGo();
        faultsBehindACall();
        spentEndsAll();
        guardFromTo();
        guardCodes();
        guardHandlerHasOp();
        guardIsTheFirst();
        guardEmptiesThePile();
        guardAtACall();
        guardOfAHandler();
        lastHasOp();
        lastAfterGuards();
        lastBeginsOnce();
        lastAsItIsOpen();
        lastEmptiesThePile();
        lastOfACall();
        returnPutsAside();
        leave();
        leaveAsksNoGuard();
        leaveWithoutLast();
        inThePlaceOfWhatWasPutAside();
        runRefuses();
        outputIsEmptyAsItBegins();
        results();
        toldBeforeAny();
        toldRefuses();
        toldPlaces();
        toldCounts();
        toldOpen();
        number();
        outputOfNone();
        c.end();
    }

    private static int[] op(int... numbers) {
        return Check.op(numbers);
    }

    private static long[][] longs(long[]... rows) {
        return rows;
    }

    /** Ops that raise the fault with this code, at the last place; DEEP calls a routine that calls itself. */
    private static int[][] raising(StoryClasses x, int code) {
        switch (code) {
            case Check.NOTHING:
                return new int[][] {op(14, 11)};
            case Check.INDEX:
                x.row(0, 4, 1);
                return new int[][] {op(0, 1), op(12, 0, 4)};
            case Check.CAST:
                x.row(0, 4, 1);
                return new int[][] {op(0, 0), op(12, 0, 5)};
            case Check.STORE:
                x.thing(4);
                x.thing(1);
                return new int[][] {op(0, 0), op(0, 0), op(0, 1), op(24)};
            case Check.SIZE:
                return new int[][] {op(0, -1), op(15, 0, 4)};
            case Check.ZERO:
                return new int[][] {op(0, 1), op(0, 0), op(7)};
            case Check.ARGUMENT:
                return new int[][] {op(0, 13), op(15, 0, 4)};
            case Check.PILE:
                return new int[][] {op(26)};
            case Check.DEEP:
                int itself = x.count(1, 0);
                Check.routine(x, 1, op(19, itself, 0));
                return new int[][] {op(19, itself, 0)};
            case Check.BEHIND:
                return new int[][] {op(10, 29)};
            case Check.OWN:
                return new int[][] {op(0, 31), op(21)};
            default:
                x.thing(0);
                return new int[][] {op(0, 0), op(23, 3)};
        }
    }

    /** "FAULTS have CODES: 1 NOTHING, .. 12 DUMB; and a NUMBER: of OWN what was thrown, of others 0." */
    private static void numbersOfFaults() {
        for (int code = 1; code <= 12; code++) {
            StoryClasses x = new StoryClasses();
            int[][] ops = raising(x, code);
            int callee = Check.routine(x, 1, ops);
            // An OWN with 77 comes before, so that an older number would be seen.
            int r = Check.routine(x, 1, op(0, 77), op(21), op(19, callee, 0), op(26), op(26), op(0, 9), op(20));
            x.guard(r, 1, 2, OWN, 2);
            c.due("code " + code, x.run(r, 0, 0), 1);
            c.due("code " + code, x.told(0), code);
            c.due("number of " + code, x.number(), code == OWN ? 31 : 0);
            x.guard(r, 2, 3, code, 3);
            c.gives("a guard takes " + code, x, r, 0, 0, 9);
            c.due("CODE is laid above", x.output(0), code);
            c.due("NUMBER of " + code + " is laid", x.output(1), code == OWN ? 31 : 0);
            c.due("two faults", x.told(4), 2);
            c.due("two were taken", x.told(5), 2);
        }
        StoryClasses x = new StoryClasses();
        x.thing(1);
        int r = Check.routine(x, 1, op(0, 77), op(21), op(0, 0), op(0, 10), op(23, 1));
        x.guard(r, 1, 2, OWN, 2);
        c.fails("a CRATE's OWN", x, r, 0, 0, OWN, 4);
        c.due("a CRATE throws 50", x.number(), 50);
    }

    /** "A RUN calls a ROUTINE with two numbers, LOCALS 0 and 1 (if it has that)." */
    private static void localsOfARun() {
        StoryClasses x = new StoryClasses();
        int one = Check.routine(x, 1, op(1, 0), op(26), op(0, 5), op(2, 0), op(0, 1), op(20));
        c.gives("one LOCAL", x, one, Long.MIN_VALUE, 8, 1);
        c.due("one LOCAL", x.output(0), Long.MIN_VALUE);
        int two = Check.routine(x, 2, op(1, 0), op(26), op(1, 1), op(26), op(0, 1), op(20));
        c.gives("two LOCALS", x, two, 7, Long.MAX_VALUE, 1);
        c.due("LOCAL 0", x.output(0), 7);
        c.due("LOCAL 1", x.output(1), Long.MAX_VALUE);
        int six = Check.routine(x, 6, op(1, 2), op(26), op(1, 5), op(26), op(0, 6), op(2, 2), op(0, 6), op(2, 5),
            op(0, 1), op(20));
        for (int again = 0; again < 2; again++) {
            c.gives("six LOCALS", x, six, 7, 8, 1);
            c.due("others are 0", x.output(0), 0);
            c.due("others are 0", x.output(1), 0);
        }
        // A routine with one local, called by another: what y was is not seen there.
        int callee = Check.routine(x, 6, op(1, 1), op(20));
        int caller = Check.routine(x, 1, op(0, 4), op(19, callee, 1), op(20));
        c.gives("others of a call are 0", x, caller, 7, 8, 0);
    }

    /** A routine of 2 + 7 n + k steps: n is LOCAL 0, k the number of ops that go to the next place; it returns 8. */
    private static int counting(StoryClasses x, int k, int[]... end) {
        int[][] ops = new int[7 + k + end.length][];
        int[][] loop = {op(1, 0), op(11, 7), op(1, 0), op(0, 1), op(4), op(2, 0), op(10, 0)};
        System.arraycopy(loop, 0, ops, 0, 7);
        for (int i = 0; i < k; i++) {
            ops[7 + i] = op(10, 8 + i);
        }
        System.arraycopy(end, 0, ops, 7 + k, end.length);
        return Check.routine(x, 2, ops);
    }

    /** "Each OP that is begun is a STEP; where the 301st would be, .. the RUN is SPENT". */
    private static void steps() {
        StoryClasses x = new StoryClasses();
        // 2 + 7 * 42 is 296.
        int s299 = counting(x, 1, op(0, 8), op(20));
        int s300 = counting(x, 2, op(0, 8), op(20));
        int s301 = counting(x, 3, op(0, 8), op(20));
        c.gives("299 steps", x, s299, 42, 0, 8);
        c.due("299 steps", x.told(3), 299);
        c.gives("300 steps", x, s300, 42, 0, 8);
        c.due("300 steps", x.told(3), 300);
        c.due("301 steps", x.run(s301, 42, 0), 2);
        c.tolds("301 steps", x, 0, NONE, NONE, 300, 0, 0, 0, 1);
        c.due("301 steps: nothing returned", x.result(), 0);
        c.gives("the next run begins anew", x, s300, 42, 0, 8);
        c.due("the next run begins anew", x.told(3), 300);
        // What the 300th does is done.
        int out300 = counting(x, 2, op(0, 8), op(26));
        int out301 = counting(x, 3, op(0, 8), op(26));
        x.run(out300, 42, 0);
        c.due("the 300th is done", x.count(3, 0), 1);
        c.due("the 301st would be", x.run(out301, 42, 0), 2);
        c.due("the 301st is not done", x.count(3, 0), 0);
    }

    /** STEPS are counted over all that are open. */
    private static void stepsInCalls() {
        StoryClasses x = new StoryClasses();
        int s296 = counting(x, 0, op(0, 8), op(20));
        int caller = Check.routine(x, 1, op(1, 0), op(19, s296, 1), op(20));
        c.gives("a call", x, caller, 42 - 1, 0, 8);
        c.due("a call", x.told(3), 3 + 2 + 7 * 41 + 2);
        c.due("300 before the caller's last", x.run(caller, 42, 0), 2);
        c.due("300 before the caller's last", x.told(3), 300);
        c.due("two were open", x.told(7), 2);
        c.due("nothing returned", x.result(), 0);
    }

    /** A fault at the 300th step is a fault; where a guard or LAST goes on then, the 301st would be. */
    private static void stepsAtAFault() {
        StoryClasses x = new StoryClasses();
        int r = counting(x, 3, op(26), op(0, 5), op(20));
        c.fails("the 300th faults", x, r, 42, 0, PILE, 10);
        c.due("the 300th faults", x.told(3), 300);
        x.guard(r, 10, 11, PILE, 11);
        c.due("it is taken, and spent", x.run(r, 42, 0), 2);
        c.tolds("it is taken, and spent", x, 0, NONE, NONE, 300, 1, 1, 0, 1);
        int s = counting(x, 3, op(26), op(0, 5), op(20));
        x.last(s, 11);
        c.due("LAST begins, and spent", x.run(s, 42, 0), 2);
        c.tolds("LAST begins, and spent", x, 0, NONE, NONE, 300, 1, 0, 1, 1);
        int u = counting(x, 2, op(0, 8), op(20), op(22));
        x.last(u, 11);
        c.due("the 300th returns, LAST begins, and spent", x.run(u, 42, 0), 2);
        c.tolds("the 300th returns, LAST begins, and spent", x, 0, NONE, NONE, 300, 0, 0, 1, 1);
        c.due("nothing returned", x.result(), 0);
        int v = counting(x, 3, op(10, 29));
        c.fails("the 300th goes behind", x, v, 42, 0, BEHIND, 10);
        c.due("the 300th goes behind", x.told(3), 300);
    }

    /** "all ends at once": no LAST is begun by it, none goes on. */
    private static void spentInLast() {
        StoryClasses x = new StoryClasses();
        int callee = Check.routine(x, 1, op(10, 0), op(0, 1), op(26), op(22));
        x.last(callee, 1);
        x.guard(callee, 0, 1, 0, 1);
        int caller = Check.routine(x, 1, op(19, callee, 0), op(20), op(0, 1), op(26), op(22));
        x.last(caller, 2);
        x.guard(caller, 0, 1, 0, 2);
        c.due("SPENT", x.run(caller, 0, 0), 2);
        c.tolds("SPENT", x, 0, NONE, NONE, 300, 0, 0, 0, 2);
        c.due("SPENT: nothing told", x.count(3, 0), 0);
    }

    /** Faults LOCAL 0 times, each taken; then it does these ops, from place 12 on, whose faults are not taken. */
    private static int faulting(StoryClasses x, int[]... end) {
        int[][] loop = {op(1, 0), op(11, 12), op(0, 4), op(21), op(26), op(26), op(1, 0), op(0, 1), op(4), op(2, 0),
            op(10, 0), op(22)};
        int[][] ops = new int[12 + end.length][];
        System.arraycopy(loop, 0, ops, 0, 12);
        System.arraycopy(end, 0, ops, 12, end.length);
        int r = Check.routine(x, 2, ops);
        x.guard(r, 3, 4, OWN, 4);
        return r;
    }

    /** "or at the 25th FAULT": the 24th is none such. */
    private static void faults24() {
        StoryClasses x = new StoryClasses();
        int fine = faulting(x, op(0, 5), op(20));
        c.gives("24 faults that are taken", x, fine, 24, 0, 5);
        c.tolds("24 faults that are taken", x, 0, NONE, NONE, 24 * 11 + 4, 24, 24, 0, 1);
        int r = faulting(x, op(0, 6), op(21));
        c.fails("the 24th ends it", x, r, 23, 0, OWN, 13);
        c.tolds("the 24th ends it", x, OWN, r, 13, 23 * 11 + 4, 24, 23, 0, 1);
        c.due("the 24th ends it", x.number(), 6);
    }

    /** "or at the 25th FAULT .., the RUN is SPENT". */
    private static void faults25() {
        StoryClasses x = new StoryClasses();
        int fine = faulting(x, op(0, 5), op(20));
        c.due("the 25th would be taken", x.run(fine, 25, 0), 2);
        c.tolds("the 25th would be taken", x, 0, NONE, NONE, 24 * 11 + 4, 25, 24, 0, 1);
        int r = faulting(x, op(0, 6), op(21));
        c.due("the 25th would end it", x.run(r, 24, 0), 2);
        c.tolds("the 25th would end it", x, 0, NONE, NONE, 24 * 11 + 4, 25, 24, 0, 1);
        c.due("the 25th would end it: no NUMBER", x.number(), 0);
        c.due("the 25th would end it: nothing returned", x.result(), 0);
        int last = faulting(x, op(0, 6), op(21), op(0, 1), op(26), op(22));
        x.last(last, 14);
        c.due("LAST would begin", x.run(last, 24, 0), 2);
        c.tolds("LAST would begin", x, 0, NONE, NONE, 24 * 11 + 4, 25, 24, 0, 1);
        c.gives("the next run begins anew", x, fine, 24, 0, 5);
    }

    /** "(counted as they come at an OP; not those that come on at a CALL)". */
    private static void faultsThatComeOn() {
        StoryClasses x = new StoryClasses();
        int a = Check.routine(x, 1, op(0, 4), op(21));
        int b = Check.routine(x, 1, op(19, a, 0));
        int d = Check.routine(x, 1, op(19, b, 0));
        int r = Check.routine(x, 2, op(1, 0), op(11, 8), op(1, 0), op(0, 1), op(4), op(2, 0), op(19, d, 0), op(10, 0),
            op(0, 5), op(20));
        x.guard(r, 6, 7, OWN, 0);
        c.gives("22 faults, each of three calls", x, r, 22, 0, 5);
        c.tolds("22 faults, each of three calls", x, 0, NONE, NONE, 22 * 11 + 4, 22, 22, 0, 4);
        // 24 come on at one call and are counted once.
        int s = Check.routine(x, 2, op(1, 0), op(11, 8), op(1, 0), op(0, 1), op(4), op(2, 0), op(19, a, 0), op(10, 0),
            op(0, 5), op(20));
        x.guard(s, 6, 7, OWN, 0);
        c.gives("24 that come on", x, s, 24, 0, 5);
        c.due("24 that come on", x.told(4), 24);
        c.due("25 that come on", x.run(s, 25, 0), 2);
        c.due("25 that come on", x.told(4), 25);
        c.due("25 that come on: 24 were taken", x.told(5), 24);
    }

    /** A fault with which a ROUTINE ends by LEAVE comes on, and is not counted a second time. */
    private static void faultsThatLeaveLetsGo() {
        StoryClasses x = new StoryClasses();
        int a = Check.routine(x, 1, op(14, 0), op(22));
        x.last(a, 1);
        int r = Check.routine(x, 2, op(1, 0), op(11, 8), op(1, 0), op(0, 1), op(4), op(2, 0), op(19, a, 0), op(10, 0),
            op(0, 5), op(20));
        x.guard(r, 6, 7, Check.NOTHING, 0);
        c.gives("24 that LEAVE lets go", x, r, 24, 0, 5);
        c.tolds("24 that LEAVE lets go", x, 0, NONE, NONE, 24 * 9 + 4, 24, 24, 24, 2);
        c.due("25 that LEAVE would let go", x.run(r, 25, 0), 2);
        c.tolds("25 that LEAVE would let go", x, 0, NONE, NONE, 24 * 9 + 8, 25, 24, 24, 2);
    }

    /** A fault that comes behind a CALL that returned is one at that OP, and is counted. */
    private static void faultsBehindACall() {
        StoryClasses x = new StoryClasses();
        int a = Check.routine(x, 1, op(0, 4), op(20));
        int r = Check.routine(x, 1, op(19, a, 0));
        c.fails("BEHIND the call", x, r, 0, 0, BEHIND, 0);
        c.tolds("BEHIND the call", x, BEHIND, r, 0, 3, 1, 0, 0, 2);
        x.guard(r, 0, 1, BEHIND, 0);
        c.due("25 of them", x.run(r, 0, 0), 2);
        c.tolds("25 of them", x, 0, NONE, NONE, 75, 25, 24, 0, 2);
    }

    /** "all ends at once"; what was done to memory and things stays. */
    private static void spentEndsAll() {
        StoryClasses x = new StoryClasses();
        x.row(0, 4, 1);
        int r = Check.routine(x, 1, op(0, 0), op(0, 6), op(13, 0, 4), op(0, 7), op(26), op(27), op(2, 0), op(10, 7));
        c.due("SPENT", x.run(r, 0, 0), 2);
        c.due("memory stays", x.item(0, 0), 6);
        c.due("the output stays", x.output(0), 7);
        c.due("what is kept stays", x.count(2, 0), 1);
    }

    /** "the first GUARD whose places have it (from .. to, without to)". */
    private static void guardFromTo() {
        int[][] ranges = {{3, 4}, {0, 4}, {3, 30}, {0, 30}, {2, 5}, {2, 4}};
        int[][] not = {{4, 5}, {0, 3}, {4, 30}, {2, 3}, {0, 1}, {29, 30}};
        for (int i = 0; i < ranges.length; i++) {
            StoryClasses x = new StoryClasses();
            int r = Check.routine(x, 1, op(0, 1), op(10, 2), op(0, 6), op(21), op(0, 8), op(20));
            x.guard(r, not[i][0], not[i][1], 0, 4);
            c.fails("not " + not[i][0] + " .. " + not[i][1], x, r, 0, 0, OWN, 3);
            x.guard(r, ranges[i][0], ranges[i][1], 0, 4);
            c.gives(ranges[i][0] + " .. " + ranges[i][1], x, r, 0, 0, 8);
        }
    }

    /** "whose CODE is that or 0". */
    private static void guardCodes() {
        for (int code = 1; code <= 12; code++) {
            for (int guarded = 0; guarded <= 12; guarded++) {
                StoryClasses x = new StoryClasses();
                int[][] ops = raising(x, code);
                int place = ops.length - 1;
                int[][] all = new int[ops.length + 2][];
                System.arraycopy(ops, 0, all, 0, ops.length);
                all[place + 1] = op(0, 8);
                all[place + 2] = op(20);
                int r = Check.routine(x, 1, all);
                x.guard(r, place, place + 1, guarded, place + 1);
                boolean takes = guarded == 0 || guarded == code;
                c.due(guarded + " takes " + code, x.run(r, 0, 0), takes ? 0 : 1);
                c.due(guarded + " takes " + code, x.told(5), takes ? 1 : 0);
                c.due(guarded + " takes " + code, x.told(0), takes ? 0 : code);
            }
        }
    }

    /** "and at whose handler there is an OP". */
    private static void guardHandlerHasOp() {
        StoryClasses x = new StoryClasses();
        int r = Check.routine(x, 1, op(0, 6), op(21), op(20));
        x.guard(r, 1, 2, 0, 3);
        c.fails("no OP at the handler", x, r, 0, 0, OWN, 1);
        c.due("none took", x.told(5), 0);
        x.guard(r, 1, 2, 0, 2);
        c.gives("the next one takes it, at the last OP", x, r, 0, 0, OWN);
        x.op(r, 20, 0, 0);
        c.gives("an OP came: the first takes it", x, r, 0, 0, OWN);
        StoryClasses y = new StoryClasses();
        int s = Check.routine(y, 1, op(0, 6), op(21));
        y.guard(s, 1, 2, 0, 29);
        c.fails("no OP at 29", y, s, 0, 0, OWN, 1);
        for (int i = 2; i < 29; i++) {
            y.op(s, 0, i, 0);
        }
        c.fails("no OP at 29", y, s, 0, 0, OWN, 1);
        y.op(s, 20, 0, 0);
        c.gives("an OP at 29", y, s, 0, 0, OWN);
    }

    /** "the first GUARD .. TAKES it". */
    private static void guardIsTheFirst() {
        StoryClasses x = new StoryClasses();
        int r = Check.routine(x, 1, op(0, 6), op(21), op(0, 2), op(20), op(0, 4), op(20));
        x.guard(r, 0, 2, OWN, 4);
        x.guard(r, 1, 2, OWN, 2);
        x.guard(r, 1, 2, 0, 2);
        c.gives("the first", x, r, 0, 0, 4);
        c.due("one took", x.told(5), 1);
    }

    /** "the PILE is emptied, NUMBER and CODE are laid, it goes on at the handler". */
    private static void guardEmptiesThePile() {
        StoryClasses x = new StoryClasses();
        // Eight are laid; at the handler there are two, so that six more find room, and no seventh.
        int r = Check.routine(x, 1, Check.onPile(8, op(21), op(0, 1), op(0, 1), op(0, 1), op(0, 1), op(0, 1), op(0, 1),
            op(0, 1), op(20)));
        x.guard(r, 8, 9, 0, 9);
        c.fails("two and six", x, r, 0, 0, PILE, 15);
        int s = Check.routine(x, 1, Check.onPile(8, op(21), op(26), op(26), op(26)));
        x.guard(s, 8, 9, 0, 9);
        c.fails("two and no third", x, s, 0, 0, PILE, 11);
        c.due("CODE above", x.output(0), OWN);
        c.due("NUMBER below", x.output(1), 8);
        // LOCALS stay as they are.
        int u = Check.routine(x, 2, op(0, 5), op(2, 1), op(26), op(1, 1), op(20));
        x.guard(u, 2, 3, 0, 3);
        c.gives("LOCALS stay", x, u, 0, 0, 5);
    }

    /** "A FAULT at an OP (or one with which what it called ended)": the place of the CALL is asked for. */
    private static void guardAtACall() {
        StoryClasses x = new StoryClasses();
        int a = Check.routine(x, 1, op(0, 1), op(10, 2), op(0, 6), op(21));
        int r = Check.routine(x, 1, op(10, 1), op(19, a, 0), op(0, 3), op(20), op(0, 4), op(20));
        x.guard(r, 3, 4, 0, 4);
        x.guard(r, 0, 1, 0, 4);
        x.guard(r, 2, 3, 0, 4);
        c.due("not at the callee's place", x.run(r, 0, 0), 1);
        c.tolds("not at the callee's place", x, OWN, a, 3, 6, 1, 0, 0, 2);
        x.guard(r, 1, 2, 0, 4);
        c.gives("at the call", x, r, 0, 0, 4);
        c.tolds("at the call", x, 0, NONE, NONE, 8, 1, 1, 0, 2);
    }

    /** A fault in a handler is one as any other: its own guard may take it again. */
    private static void guardOfAHandler() {
        StoryClasses x = new StoryClasses();
        int r = Check.routine(x, 1, op(0, 6), op(21), op(3), op(21));
        x.guard(r, 1, 2, 0, 2);
        c.fails("a handler that throws", x, r, 0, 0, OWN, 3);
        c.due("NUMBER", x.number(), 6 + OWN);
        c.due("two faults", x.told(4), 2);
        int s = Check.routine(x, 1, op(0, 6), op(21), op(3), op(21));
        x.guard(s, 0, 4, 0, 2);
        c.due("a handler within its guard", x.run(s, 0, 0), 2);
        c.tolds("a handler within its guard", x, 0, NONE, NONE, 50, 25, 24, 0, 1);
    }

    /** "if there is an OP at the place told for LAST". */
    private static void lastHasOp() {
        StoryClasses x = new StoryClasses();
        int r = Check.routine(x, 1, op(0, 6), op(21), op(22));
        int s = Check.routine(x, 1, op(0, 6), op(20), op(22));
        for (int place : new int[] {3, 29, NONE}) {
            x.last(r, place);
            c.fails("no OP at " + place, x, r, 0, 0, OWN, 1);
            c.due("no LAST began", x.told(6), 0);
            x.last(s, place);
            c.gives("no OP at " + place, x, s, 0, 0, 6);
            c.due("no LAST began", x.told(6), 0);
        }
        x.last(r, 2);
        c.fails("an OP at the last place", x, r, 0, 0, OWN, 1);
        c.due("LAST began", x.told(6), 1);
        x.last(s, 2);
        c.gives("an OP at the last place", x, s, 0, 0, 6);
        c.due("LAST began", x.told(6), 1);
        x.last(r, 3);
        x.op(r, 22, 0, 0);
        c.fails("an OP came", x, r, 0, 0, OWN, 1);
        c.due("LAST began", x.told(6), 1);
        int first = Check.routine(x, 1, op(0, 6), op(21));
        x.last(first, 0);
        c.fails("place 0, and the fault in LAST", x, first, 0, 0, OWN, 1);
        c.tolds("place 0, and the fault in LAST", x, OWN, first, 1, 4, 2, 0, 1, 1);
    }

    /** "Else ..": LAST begins where no GUARD takes it. */
    private static void lastAfterGuards() {
        StoryClasses x = new StoryClasses();
        int r = Check.routine(x, 1, op(0, 6), op(21), op(0, 1), op(26), op(22), op(0, 5), op(20));
        x.last(r, 2);
        x.guard(r, 1, 2, ZERO, 5);
        c.fails("no guard takes it", x, r, 0, 0, OWN, 1);
        c.tolds("no guard takes it", x, OWN, r, 1, 5, 1, 0, 1, 1);
        x.guard(r, 1, 2, OWN, 5);
        c.gives("a guard takes it, then it RETURNS", x, r, 0, 0, 5);
        c.tolds("a guard takes it, then it RETURNS", x, 0, NONE, NONE, 7, 1, 1, 1, 1);
        c.due("LAST is done once", x.count(3, 0), 1);
    }

    /** "and LAST has not begun in this ROUTINE (as it is open now)". */
    private static void lastBeginsOnce() {
        StoryClasses x = new StoryClasses();
        int r = Check.routine(x, 1, op(0, 6), op(20), op(0, 7), op(26), op(0, 8), op(20));
        x.last(r, 2);
        c.gives("a second RETURN ends it", x, r, 0, 0, 8);
        c.due("LAST began once", x.told(6), 1);
        c.due("LAST is done once", x.count(3, 0), 1);
        int s = Check.routine(x, 1, op(0, 6), op(20), op(0, 7), op(26), op(0, 8), op(21));
        x.last(s, 2);
        c.fails("a fault ends it", x, s, 0, 0, OWN, 5);
        c.due("LAST began once", x.told(6), 1);
        c.due("LAST is done once", x.count(3, 0), 1);
        // A guard of LAST goes back before LAST: it has begun all the same.
        int u = Check.routine(x, 1, op(0, 6), op(20), op(0, 7), op(26), op(26));
        x.last(u, 2);
        x.guard(u, 4, 5, PILE, 0);
        c.gives("RETURN again", x, u, 0, 0, 6);
        c.due("LAST began once", x.told(6), 1);
    }

    /** "(as it is open now)": each opening of a ROUTINE has its own. */
    private static void lastAsItIsOpen() {
        StoryClasses x = new StoryClasses();
        // It calls itself with 1 less, down to 0; each one's LAST tells its LOCAL.
        int r = Check.routine(x, 1, op(1, 0), op(11, 6), op(1, 0), op(0, 1), op(4), op(19, 0, 1), op(0, 9), op(20),
            op(1, 0), op(26), op(22));
        x.last(r, 8);
        c.gives("three and their LASTS", x, r, 3, 0, 9);
        c.due("four began", x.told(6), 4);
        for (int i = 0; i < 4; i++) {
            c.due("the inner one first", x.output(i), i);
        }
        c.gives("and again", x, r, 3, 0, 9);
        c.due("four began again", x.told(6), 4);
        // One opening after another, of the same ROUTINE.
        int s = Check.routine(x, 1, op(0, 0), op(19, r, 1), op(26), op(0, 0), op(19, r, 1), op(20));
        c.gives("one after another", x, s, 0, 0, 9);
        c.due("two began", x.told(6), 2);
    }

    /** "the PILE emptied, it goes on there". */
    private static void lastEmptiesThePile() {
        StoryClasses x = new StoryClasses();
        int r = Check.routine(x, 1, Check.onPile(8, op(21), op(26)));
        x.last(r, 9);
        c.fails("a fault: there is none", x, r, 0, 0, PILE, 9);
        int s = Check.routine(x, 1, Check.onPile(8, op(20), op(26)));
        x.last(s, 9);
        c.fails("a RETURN: there is none", x, s, 0, 0, PILE, 9);
        int u = Check.routine(x, 1, Check.onPile(8, op(20), op(0, 1), op(0, 2), op(0, 3), op(0, 4), op(0, 5), op(0, 6),
            op(0, 7), op(0, 8), op(0, 9)));
        x.last(u, 9);
        c.fails("eight find room, no ninth", x, u, 0, 0, PILE, 17);
        int v = Check.routine(x, 2, op(0, 5), op(2, 1), op(14, 0), op(1, 1), op(20));
        x.last(v, 3);
        c.gives("LOCALS stay", x, v, 0, 0, 5);
    }

    /** A fault with which what it called ended begins LAST of the caller, too. */
    private static void lastOfACall() {
        StoryClasses x = new StoryClasses();
        int a = Check.routine(x, 1, op(0, 6), op(21), op(0, 1), op(26), op(22));
        x.last(a, 2);
        int b = Check.routine(x, 1, op(0, 3), op(19, a, 0), op(20), op(0, 2), op(26), op(22));
        x.last(b, 3);
        c.due("both LASTS", x.run(b, 0, 0), 1);
        c.tolds("both LASTS", x, OWN, a, 1, 10, 1, 0, 2, 2);
        c.due("the callee's first", x.output(0), 1);
        c.due("the caller's then", x.output(1), 2);
        c.due("NUMBER", x.number(), 6);
        // The same where the callee has no LAST.
        x.last(a, NONE);
        c.due("one LAST", x.run(b, 0, 0), 1);
        c.tolds("one LAST", x, OWN, a, 1, 7, 1, 0, 1, 2);
    }

    /** "RETURN x: LAST BEGINS likewise, if it can: x is put aside; else the ROUTINE ends with x." */
    private static void returnPutsAside() {
        StoryClasses x = new StoryClasses();
        int r = Check.routine(x, 1, op(1, 0), op(20), op(0, 1), op(26), op(0, 2), op(22));
        x.last(r, 2);
        for (long n : new long[] {0, 1, -1, Long.MIN_VALUE, Long.MAX_VALUE}) {
            c.gives("put aside", x, r, n, 0, n);
            c.tolds("put aside", x, 0, NONE, NONE, 6, 0, 0, 1, 1);
            c.due("LAST is done", x.output(0), 1);
        }
        // A RETURN that has no number is a fault, and that is put aside.
        int s = Check.routine(x, 1, op(20), op(22));
        x.last(s, 1);
        c.fails("no number", x, s, 0, 0, PILE, 0);
        c.due("LAST began", x.told(6), 1);
    }

    /** "LEAVE: when LAST has begun, the ROUTINE ends with what was put aside". */
    private static void leave() {
        StoryClasses x = new StoryClasses();
        int a = Check.routine(x, 1, op(1, 0), op(20), op(22));
        x.last(a, 2);
        int b = Check.routine(x, 1, op(0, 30), op(1, 0), op(19, a, 1), op(3), op(20));
        c.gives("its number is laid by the CALL", x, b, 12, 0, 42);
        int d = Check.routine(x, 1, op(1, 0), op(21), op(22));
        x.last(d, 2);
        int e = Check.routine(x, 1, op(1, 0), op(19, d, 1), op(26), op(20));
        x.guard(e, 1, 2, OWN, 2);
        c.gives("its fault comes on at the CALL", x, e, 12, 0, 12);
        c.due("CODE", x.output(0), OWN);
        // A handler in which LAST has begun may LEAVE as well.
        int f = Check.routine(x, 1, op(0, 4), op(20), op(26), op(22));
        x.last(f, 2);
        x.guard(f, 2, 3, PILE, 3);
        c.gives("from a handler", x, f, 0, 0, 4);
        // LEAVE where the caller's CALL is its last OP: BEHIND comes there, after all.
        int g = Check.routine(x, 1, op(0, 1), op(19, a, 1));
        c.fails("BEHIND the call", x, g, 0, 0, BEHIND, 1);
    }

    /** "(no GUARD is asked)". */
    private static void leaveAsksNoGuard() {
        StoryClasses x = new StoryClasses();
        int r = Check.routine(x, 1, op(0, 6), op(21), op(22), op(0, 1), op(20));
        x.last(r, 2);
        x.guard(r, 2, 3, 0, 3);
        x.guard(r, 0, 1, 0, 3);
        c.fails("LEAVE with a fault", x, r, 0, 0, OWN, 1);
        c.tolds("LEAVE with a fault", x, OWN, r, 1, 3, 1, 0, 1, 1);
        // The same ROUTINE, where the caller's guard takes it.
        int s = Check.routine(x, 1, op(19, r, 0), op(26), op(20));
        x.guard(s, 0, 1, OWN, 1);
        c.gives("the caller's guard is asked", x, s, 0, 0, 6);
        c.due("one took", x.told(5), 1);
    }

    /** "else BEHIND". */
    private static void leaveWithoutLast() {
        StoryClasses x = new StoryClasses();
        int r = Check.routine(x, 1, op(0, 1), op(22), op(0, 3), op(20));
        c.fails("no LAST", x, r, 0, 0, BEHIND, 1);
        x.last(r, 3);
        c.fails("LAST has not begun: it begins by that, and 20 has no number", x, r, 0, 0, PILE, 3);
        c.tolds("LAST has not begun", x, PILE, r, 3, 3, 2, 0, 1, 1);
        x.last(r, 2);
        c.gives("LAST has not begun: it begins by that", x, r, 0, 0, 3);
        x.guard(r, 1, 2, BEHIND, 2);
        x.last(r, NONE);
        c.gives("a guard takes it", x, r, 0, 0, 3);
        c.due("a guard takes it", x.told(5), 1);
        // The caller's LAST that has begun is not the callee's.
        int callee = Check.routine(x, 1, op(22));
        int caller = Check.routine(x, 1, op(0, 1), op(20), op(19, callee, 0), op(22));
        x.last(caller, 2);
        c.due("not the caller's", x.run(caller, 0, 0), 1);
        c.tolds("not the caller's", x, BEHIND, callee, 0, 4, 1, 0, 1, 2);
    }

    /** "(So a RETURN, or a FAULT that none TAKES, in LAST goes in the place of what was put aside.)" */
    private static void inThePlaceOfWhatWasPutAside() {
        StoryClasses x = new StoryClasses();
        int[][] ends = {op(20), op(21)};
        for (int[] first : ends) {
            for (int[] second : ends) {
                int r = Check.routine(x, 1, op(0, 6), first, op(0, 7), second);
                x.last(r, 2);
                String what = first[0] + ", then " + second[0];
                if (second[0] == 20) {
                    c.gives(what, x, r, 0, 0, 7);
                } else {
                    c.fails(what, x, r, 0, 0, OWN, 3);
                    c.due(what + ": NUMBER", x.number(), 7);
                }
            }
        }
        // A FAULT that one TAKES does not: neither where a number nor where a fault was put aside.
        for (int[] first : ends) {
            int r = Check.routine(x, 1, op(0, 6), first, op(0, 7), op(21), op(22));
            x.last(r, 2);
            x.guard(r, 3, 4, 0, 4);
            if (first[0] == 20) {
                c.gives("a guard takes it", x, r, 0, 0, 6);
            } else {
                c.fails("a guard takes it", x, r, 0, 0, OWN, 1);
                c.due("a guard takes it: NUMBER", x.number(), 6);
            }
        }
    }

    /** Promise 14: "BAD: no such ROUTINE, or it has no OPS." */
    private static void runRefuses() {
        StoryClasses x = new StoryClasses();
        c.due("14 none", x.run(0, 0, 0), BAD);
        int r = Check.routine(x, 1, op(0, 6), op(26), op(0, 7), op(21));
        int empty = x.routine(1);
        x.last(empty, 0);
        x.guard(empty, 0, 1, 0, 0);
        c.fails("14", x, r, 0, 0, OWN, 3);
        for (int k : new int[] {-1, empty, 2, 11, 12, LOW, HIGH}) {
            c.due("14 BAD " + k, x.run(k, 0, 0), BAD);
        }
        c.tolds("14 BAD is no RUN", x, OWN, r, 3, 4, 1, 0, 0, 1);
        c.due("14 BAD is no RUN", x.number(), 7);
        c.due("14 BAD is no RUN", x.output(0), 6);
        c.due("14 BAD is no RUN", x.count(3, 0), 1);
        x.op(empty, 0, 3, 0);
        x.op(empty, 20, 0, 0);
        x.last(empty, NONE);
        c.gives("14 it has OPS now", x, empty, 0, 0, 3);
        c.due("14 BAD after a RETURN", x.run(9, 0, 0), BAD);
        c.due("14 BAD is no RUN", x.result(), 3);
    }

    /** Promise 14: "(THE OUTPUT is empty as it begins.)" */
    private static void outputIsEmptyAsItBegins() {
        StoryClasses x = new StoryClasses();
        int two = Check.routine(x, 1, op(0, 6), op(26), op(0, 7), op(26), op(0, 8), op(20));
        int none = Check.routine(x, 1, op(0, 8), op(20));
        c.gives("14 two", x, two, 0, 0, 8);
        c.due("14 two", x.count(3, 0), 2);
        c.gives("14 none", x, none, 0, 0, 8);
        c.due("14 none", x.count(3, 0), 0);
        c.due("14 none", x.output(0), 0);
        c.gives("14 two again", x, two, 0, 0, 8);
        c.due("14 two again", x.count(3, 0), 2);
    }

    /** Promise 15: "What the latest RUN RETURNED; 0: nothing." */
    private static void results() {
        StoryClasses x = new StoryClasses();
        c.due("15 before any", x.result(), 0);
        int r = Check.routine(x, 1, op(1, 0), op(20));
        int fault = Check.routine(x, 1, op(1, 0), op(21));
        int spent = Check.routine(x, 1, op(10, 0));
        c.gives("15", x, r, Long.MIN_VALUE, 0, Long.MIN_VALUE);
        c.fails("15 of a fault", x, fault, 5, 0, OWN, 1);
        c.due("15 nothing", x.result(), 0);
        c.gives("15", x, r, 5, 0, 5);
        c.due("14 SPENT", x.run(spent, 0, 0), 2);
        c.due("15 nothing", x.result(), 0);
        // What a called one RETURNED is not what the RUN did.
        int caller = Check.routine(x, 1, op(0, 4), op(19, r, 1), op(21));
        c.fails("15 of a fault after a call", x, caller, 0, 0, OWN, 2);
        c.due("15 nothing", x.result(), 0);
    }

    /** Promise 16: "0 (1, 2 NONE) before any." */
    private static void toldBeforeAny() {
        StoryClasses x = new StoryClasses();
        c.tolds("16 before any", x, 0, NONE, NONE, 0, 0, 0, 0, 0);
        x.routine(1);
        x.run(0, 0, 0);
        c.tolds("16 a BAD one is none", x, 0, NONE, NONE, 0, 0, 0, 0, 0);
    }

    /** Promise 16: "BAD." */
    private static void toldRefuses() {
        StoryClasses x = new StoryClasses();
        for (int again = 0; again < 2; again++) {
            for (int what : new int[] {-1, 8, LOW, HIGH}) {
                c.due("16 what " + what, x.told(what), BAD);
            }
            c.due("16 the last", x.told(7), again);
            c.faults("16", x, PILE, 0, op(26));
        }
    }

    /** Promise 16: "1 the ROUTINE, 2 the place at which that came first (NONE both)". */
    private static void toldPlaces() {
        StoryClasses x = new StoryClasses();
        int a = Check.routine(x, 1, op(0, 6), op(21));
        int b = Check.routine(x, 1, op(10, 1), op(19, a, 0));
        int d = Check.routine(x, 1, op(10, 1), op(10, 2), op(19, b, 0));
        c.due("16", x.run(d, 0, 0), 1);
        c.tolds("16 first, not where it came on", x, OWN, a, 1);
        int e = Check.routine(x, 1, op(0, 6), op(20));
        c.gives("16", x, e, 0, 0, 6);
        c.tolds("16 none", x, 0, NONE, NONE);
        c.fails("16 at place 0 of routine 0", place0(), 0, 0, 0, PILE, 0);
        c.due("16", x.run(d, 0, 0), 1);
        int spent = Check.routine(x, 1, op(10, 0));
        c.due("16", x.run(spent, 0, 0), 2);
        c.tolds("16 none of a SPENT one", x, 0, NONE, NONE);
        // One that was taken is not told.
        x.guard(d, 2, 3, OWN, 1);
        c.due("16 taken", x.run(d, 0, 0), 2);
        c.tolds("16 none that was taken", x, 0, NONE, NONE);
    }

    private static StoryClasses place0() {
        StoryClasses x = new StoryClasses();
        Check.routine(x, 1, op(26));
        return x;
    }

    /** Promise 16: "3 STEPS, 4 FAULTS, 5 how many GUARDS took, 6 how often a LAST BEGAN": of the latest RUN. */
    private static void toldCounts() {
        StoryClasses x = new StoryClasses();
        int r = Check.routine(x, 1, op(26), op(26), op(26), op(0, 5), op(20), op(0, 1), op(26), op(26), op(22));
        x.guard(r, 0, 1, 0, 1);
        x.guard(r, 7, 8, 0, 8);
        x.last(r, 5);
        for (int again = 0; again < 2; again++) {
            c.due("16", x.run(r, 0, 0), 0);
            c.tolds("16 counts", x, 0, NONE, NONE, 9, 2, 2, 1, 1);
        }
        c.due("15", x.result(), 5);
        int least = Check.routine(x, 1, op(0, 5), op(20));
        c.gives("16 least", x, least, 0, 0, 5);
        c.tolds("16 least", x, 0, NONE, NONE, 2, 0, 0, 0, 1);
    }

    /** Promise 16: "7 the most ROUTINES that were open". */
    private static void toldOpen() {
        StoryClasses x = new StoryClasses();
        int a = Check.routine(x, 1, op(0, 5), op(20));
        int b = Check.routine(x, 1, op(19, a, 0), op(20));
        int d = Check.routine(x, 1, op(19, b, 0), op(26), op(19, a, 0), op(20));
        c.gives("16 one", x, a, 0, 0, 5);
        c.due("16 one", x.told(7), 1);
        c.gives("16 three, then two", x, d, 0, 0, 5);
        c.due("16 three, then two", x.told(7), 3);
        c.gives("16 two", x, b, 0, 0, 5);
        c.due("16 two", x.told(7), 2);
        int itself = x.count(1, 0);
        Check.routine(x, 1, op(19, itself, 0));
        c.due("16 the most there can be", x.run(itself, 0, 0), 1);
        c.tolds("16 the most there can be", x, DEEP, itself, 0, 12, 1, 0, 0, 12);
    }

    /** Promise 17: "The NUMBER of that FAULT; 0." */
    private static void number() {
        StoryClasses x = new StoryClasses();
        c.due("17 before any", x.number(), 0);
        int own = Check.routine(x, 1, op(1, 0), op(21));
        int other = Check.routine(x, 1, op(1, 0), op(0, 0), op(6));
        int fine = Check.routine(x, 1, op(1, 0), op(20));
        int spent = Check.routine(x, 1, op(10, 0));
        for (int then : new int[] {other, fine, spent}) {
            for (long n : new long[] {1, Long.MIN_VALUE}) {
                c.fails("17 OWN", x, own, n, 0, OWN, 1);
                c.due("17 OWN", x.number(), n);
                x.run(then, 9, 0);
                c.due("17 0", x.number(), 0);
            }
        }
        // One that was taken, and one that RETURN in LAST goes in the place of.
        int taken = Check.routine(x, 1, op(0, 6), op(21), op(20));
        x.guard(taken, 1, 2, 0, 2);
        c.gives("17 taken", x, taken, 0, 0, OWN);
        c.due("17 taken", x.number(), 0);
        int gone = Check.routine(x, 1, op(0, 6), op(21), op(0, 1), op(20));
        x.last(gone, 2);
        c.gives("17 put aside", x, gone, 0, 0, 1);
        c.due("17 put aside", x.number(), 0);
    }

    /** Promise 18: "Number i of THE OUTPUT. 0: there is none such." */
    private static void outputOfNone() {
        StoryClasses x = new StoryClasses();
        c.due("18 before any", x.output(0), 0);
        int r = Check.routine(x, 2, op(1, 0), op(26), op(1, 1), op(26), op(0, 5), op(20));
        for (long[] pair : longs(new long[] {7, 8}, new long[] {Long.MIN_VALUE, Long.MAX_VALUE})) {
            c.gives("18", x, r, pair[0], pair[1], 5);
            c.due("18 first", x.output(0), pair[0]);
            c.due("18 last", x.output(1), pair[1]);
            for (int i : new int[] {-1, 2, 59, 60, LOW, HIGH}) {
                c.due("18 none such " + i, x.output(i), 0);
            }
        }
    }
}
