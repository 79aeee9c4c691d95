/** Promises 14 to 18: run, result, told, number, output; calls, guards and last. */
public final class RunTest {
    private static final int BAD = Check.BAD, NONE = Check.NONE;
    private static final int NOTHING = 1, ZERO = 6, ARGUMENT = 7, PILE = 8, DEEP = 9, BEHIND = 10, OWN = 11;
    private static final Check c = new Check();

    public static void main(String[] args) {
        runRefused();
        told();
        spentBySteps();
        spentByFaults();
        calls();
        callsRefused();
        deep();
        behindAfterACall();
        guards();
        guardsOfCallers();
        lastOfReturn();
        lastOfFault();
        lastInLast();
        lastAndGuards();
        lastAgain();
        leave();
        c.end();
    }

    private static int[] op(int... numbers) {
        return Check.op(numbers);
    }

    private static void runRefused() {
        StoryClasses x = new StoryClasses();
        int r = Check.routine(x, 1, op(0, 5), op(26), op(0, 6), op(20));
        x.routine(1);
        c.due("14 run", x.run(r, 0, 0), 0);
        c.due("14 no ops", x.run(1, 0, 0), BAD);
        c.due("14 no such", x.run(2, 0, 0), BAD);
        c.due("14 no such", x.run(-1, 0, 0), BAD);
        c.due("15 stays", x.result(), 6);
        c.tolds("16 stays", x, 0, NONE, NONE, 4, 0, 0, 0, 1);
        c.due("16 low", x.told(-1), BAD);
        c.due("16 high", x.told(8), BAD);
    }

    private static void told() {
        StoryClasses x = new StoryClasses();
        Check.routine(x, 1, op(1, 0), op(21));
        int r = Check.routine(x, 1, op(0, 1), op(26), op(1, 0), op(19, 0, 1), op(20));
        c.due("14 FAULT", x.run(r, -77, 0), 1);
        c.tolds("16 where it came first", x, OWN, 0, 1, 6, 1, 0, 0, 2);
        c.due("17 number", x.number(), -77);
        c.due("15 nothing", x.result(), 0);
        int s = Check.routine(x, 1, op(0, 1), op(0, 0), op(6));
        c.due("14 FAULT", x.run(s, 0, 0), 1);
        c.due("17 others 0", x.number(), 0);
        c.tolds("16", x, ZERO, s, 2, 3, 1, 0, 0, 1);
        c.returns("15", x, 9, op(0, 9), op(20));
        c.tolds("16 none", x, 0, NONE, NONE, 2, 0, 0, 0, 1);
    }

    private static void spentBySteps() {
        StoryClasses x = new StoryClasses();
        // Seven steps a round, 42 rounds: 294; then the six that end it make 300.
        int r = Check.routine(x, 2, op(1, 0), op(11, 7), op(1, 0), op(0, 1), op(4), op(2, 0), op(10, 0), op(10, 8),
            op(10, 9), op(0, 8), op(20));
        c.due("14 ends with the 300th", x.run(r, 42, 0), 0);
        c.due("16 steps", x.told(3), 300);
        c.due("15 result", x.result(), 8);
        StoryClasses y = new StoryClasses();
        int s = Check.routine(y, 2, op(1, 0), op(11, 7), op(1, 0), op(0, 1), op(4), op(2, 0), op(10, 0), op(10, 8),
            op(10, 9), op(10, 10), op(0, 8), op(20));
        c.due("14 the 301st would be", y.run(s, 42, 0), 2);
        c.tolds("16 spent", y, 0, NONE, NONE, 300, 0, 0, 0, 1);
        c.due("15 nothing", y.result(), 0);
        // The 300th falls behind: that is a fault at it, not a step more.
        StoryClasses z = new StoryClasses();
        int t = Check.routine(z, 2, op(1, 0), op(11, 7), op(1, 0), op(0, 1), op(4), op(2, 0), op(10, 0), op(10, 8),
            op(10, 9), op(10, 10), op(10, 29));
        c.due("14 the 300th falls behind", z.run(t, 42, 0), 1);
        c.tolds("16 behind", z, BEHIND, 0, 10, 300, 1, 0, 0, 1);
    }

    private static void spentByFaults() {
        StoryClasses x = new StoryClasses();
        int r = Check.routine(x, 2, op(1, 0), op(21));
        x.guard(r, 0, 2, 0, 0);
        c.due("14 the 25th fault", x.run(r, 5, 0), 2);
        c.tolds("16 spent", x, 0, NONE, NONE, 50, 25, 24, 0, 1);
        c.due("17 none", x.number(), 0);
        // Faults that come on at calls are not counted.
        StoryClasses y = new StoryClasses();
        int callee = Check.routine(y, 1, op(0, 1), op(21));
        int caller = Check.routine(y, 2, op(19, callee, 0), op(1, 0), op(0, 1), op(4), op(2, 0), op(1, 0), op(11, 8),
            op(10, 0), op(0, 4), op(20));
        y.guard(caller, 0, 1, OWN, 1);
        c.due("14 24 faults", y.run(caller, 24, 0), 0);
        c.tolds("16 24 faults", y, 0, NONE, NONE, 24 * 10 - 1 + 2, 24, 24, 0, 2);
        // A last is not begun, no output comes, once the 25th has come.
        StoryClasses z = new StoryClasses();
        int l = Check.routine(z, 2, op(1, 0), op(0, 0), op(6), op(0, 1), op(26), op(22));
        int m = Check.routine(z, 2, op(1, 0), op(0, 1), op(4), op(2, 0), op(1, 0), op(11, 8), op(0, 0), op(19, 11, 0),
            op(19, l, 0));
        z.guard(m, 6, 8, 0, 0);
        z.last(l, 3);
        c.due("14 24 before", z.run(m, 25, 0), 2);
        c.tolds("16 the 25th in the called", z, 0, NONE, NONE, 24 * 8 + 7 + 3, 25, 24, 0, 2);
        c.due("18 no output", z.count(3, 0), 0);
    }

    private static void calls() {
        StoryClasses x = new StoryClasses();
        int callee = Check.routine(x, 3, op(1, 0), op(26), op(1, 1), op(26), op(1, 2), op(26), op(0, 44), op(2, 2),
            op(1, 0), op(1, 1), op(4), op(20));
        int caller = Check.routine(x, 1, op(0, 100), op(0, 7), op(0, 3), op(19, callee, 2), op(3), op(0, 1),
            op(0, 2), op(19, callee, 2), op(3), op(20));
        c.due("19 run", x.run(caller, 0, 0), 0);
        c.due("19 what it returns is laid", x.result(), 100 + 4 - 1);
        c.due("19 local 0 is the first laid", x.output(0), 7);
        c.due("19 local 1", x.output(1), 3);
        c.due("19 others are 0", x.output(2), 0);
        c.due("19 others are 0 again", x.output(5), 0);
        c.due("16 open", x.told(7), 2);
        int wide = Check.routine(x, 3, op(1, 1), op(20));
        int used = Check.routine(x, 1, op(0, 1), op(0, 2), op(0, 3), op(26), op(26), op(19, wide, 1), op(20));
        c.due("19 others are 0, whatever lay there", x.run(used, 0, 0), 0);
        c.due("19 others are 0, whatever lay there", x.result(), 0);
        int rest = Check.routine(x, 2, op(0, 1), op(0, 2), op(0, 3), op(20));
        int outer = Check.routine(x, 2, op(0, 10), op(19, rest, 0), op(4), op(20));
        c.due("19 piles are apart", x.run(outer, 0, 0), 0);
        c.due("19 piles are apart", x.result(), 7);
    }

    private static void callsRefused() {
        StoryClasses x = new StoryClasses();
        int none = x.routine(6);
        int one = Check.routine(x, 1, op(0, 1), op(20));
        c.faults("19 no such", x, NOTHING, 1, op(0, 1), op(19, 11, 1));
        c.faults("19 no ops", x, NOTHING, 1, op(0, 1), op(19, none, 1));
        c.faults("19 PILE first", x, PILE, 1, op(0, 1), op(19, none, 2));
        c.faults("19 ARGUMENT", x, ARGUMENT, 2, op(0, 1), op(0, 1), op(19, one, 2));
        int[][] ops = new int[10][];
        for (int i = 0; i < 8; i++) {
            ops[i] = op(0, i);
        }
        ops[8] = op(19, one, 1);
        ops[9] = op(20);
        c.returns("19 onto 7", x, 1, ops);
        ops[8] = op(19, one, 0);
        c.faults("19 onto 8", x, PILE, 8, ops);
        c.due("19 was not called", x.told(7), 1);
    }

    private static void deep() {
        StoryClasses x = new StoryClasses();
        int r = Check.routine(x, 1, op(1, 0), op(11, 7), op(1, 0), op(0, 1), op(4), op(19, 0, 1), op(20), op(0, 3),
            op(20));
        c.due("19 12 open", x.run(r, 11, 0), 0);
        c.due("19 12 open", x.result(), 3);
        c.due("16 12 open", x.told(7), 12);
        c.due("19 a 13th", x.run(r, 12, 0), 1);
        c.tolds("16 DEEP", x, DEEP, 0, 5, 72, 1, 0, 0, 12);
        int wrong = Check.routine(x, 1, op(19, 1, 0), op(0, 1), op(0, 2), op(19, 0, 2));
        x.guard(wrong, 0, 1, DEEP, 1);
        c.due("19 ARGUMENT before DEEP", x.run(wrong, 0, 0), 1);
        c.due("19 ARGUMENT before DEEP", x.told(0), ARGUMENT);
        c.due("19 ARGUMENT before DEEP, where 12 are open", x.told(4), 2);
    }

    private static void behindAfterACall() {
        StoryClasses x = new StoryClasses();
        int callee = Check.routine(x, 1, op(0, 1), op(20));
        int caller = Check.routine(x, 1, op(10, 4), op(26), op(26), op(10, 9), op(19, callee, 0));
        c.due("BEHIND at the call", x.run(caller, 0, 0), 1);
        c.tolds("BEHIND at the call", x, BEHIND, caller, 4, 4, 1, 0, 0, 2);
        x.guard(caller, 4, 5, BEHIND, 1);
        c.due("BEHIND is taken", x.run(caller, 0, 0), 1);
        c.due("18 CODE", x.output(0), BEHIND);
        c.due("18 NUMBER", x.output(1), 0);
        c.tolds("BEHIND is taken", x, BEHIND, caller, 3, 7, 2, 1, 0, 2);
    }

    private static void guards() {
        StoryClasses x = new StoryClasses();
        int r = Check.routine(x, 1, op(0, 9), op(1, 0), op(21), op(26), op(26), op(0, 1), op(20), op(0, 2), op(20));
        x.guard(r, 0, 2, 0, 7);
        x.guard(r, 2, 3, ZERO, 7);
        x.guard(r, 2, 3, OWN, 20);
        x.guard(r, 2, 3, OWN, 3);
        c.due("guard", x.run(r, 123, 0), 0);
        c.due("the first that takes it", x.result(), 1);
        c.due("CODE is laid last", x.output(0), OWN);
        c.due("NUMBER is laid first", x.output(1), 123);
        c.tolds("guard", x, 0, NONE, NONE, 7, 1, 1, 0, 1);
        int s = Check.routine(x, 1, op(0, 9), op(1, 0), op(21), op(26), op(26), op(26));
        x.guard(s, 2, 3, 0, 3);
        c.due("the pile was emptied", x.run(s, 5, 0), 1);
        c.tolds("the pile was emptied", x, PILE, s, 5, 6, 2, 1, 0, 1);
        int u = Check.routine(x, 1, op(1, 0), op(21), op(0, 1), op(20), op(0, 2), op(20));
        x.guard(u, 0, 2, 0, 2);
        x.guard(u, 0, 2, OWN, 4);
        c.due("0 is any", x.run(u, 5, 0), 0);
        c.due("the first", x.result(), 1);
        int v = Check.routine(x, 1, op(1, 0), op(21), op(0, 1), op(20));
        x.guard(v, 0, 1, 0, 2);
        c.due("without to", x.run(v, 5, 0), 1);
        c.due("without to", x.number(), 5);
        int w = Check.routine(x, 1, op(1, 0), op(21));
        for (int i = 0; i < 4; i++) {
            x.guard(w, 1, 2, 1 + i, 0);
        }
        c.due("four guards, none takes it", x.run(w, 5, 0), 1);
        c.due("four guards, none takes it", x.told(5), 0);
    }

    private static void guardsOfCallers() {
        StoryClasses x = new StoryClasses();
        int a = Check.routine(x, 1, op(0, 31), op(21));
        int b = Check.routine(x, 1, op(19, a, 0), op(0, 1), op(20));
        int d = Check.routine(x, 1, op(0, 9), op(19, b, 0), op(20), op(26), op(20));
        x.guard(b, 0, 1, ZERO, 1);
        x.guard(d, 1, 2, OWN, 3);
        c.due("taken by the caller", x.run(d, 0, 0), 0);
        c.due("NUMBER", x.result(), 31);
        c.due("CODE", x.output(0), OWN);
        c.tolds("taken by the caller", x, 0, NONE, NONE, 7, 1, 1, 0, 3);
    }

    private static void lastOfReturn() {
        StoryClasses x = new StoryClasses();
        int r = Check.routine(x, 1, op(0, 8), op(0, 7), op(20), op(0, 1), op(26), op(22));
        x.last(r, 3);
        c.due("LAST, LEAVE", x.run(r, 0, 0), 0);
        c.due("what was put aside", x.result(), 7);
        c.due("LAST is done", x.output(0), 1);
        c.tolds("LAST", x, 0, NONE, NONE, 6, 0, 0, 1, 1);
        int s = Check.routine(x, 1, op(0, 8), op(0, 7), op(20), op(26));
        x.last(s, 3);
        c.due("the pile is emptied", x.run(s, 0, 0), 1);
        c.tolds("the pile is emptied", x, PILE, s, 3, 4, 1, 0, 1, 1);
        int u = Check.routine(x, 1, op(0, 7), op(20));
        x.last(u, 2);
        c.due("no op at LAST", x.run(u, 0, 0), 0);
        c.due("no op at LAST", x.result(), 7);
        c.due("no op at LAST", x.told(6), 0);
        x.last(u, NONE);
        c.due("no LAST", x.run(u, 0, 0), 0);
        c.due("no LAST", x.told(6), 0);
        int v = Check.routine(x, 1, op(19, r, 0), op(0, 1), op(3), op(20));
        c.due("LEAVE lays at the caller", x.run(v, 0, 0), 0);
        c.due("LEAVE lays at the caller", x.result(), 8);
    }

    private static void lastOfFault() {
        StoryClasses x = new StoryClasses();
        int r = Check.routine(x, 1, op(0, 5), op(21), op(0, 1), op(26), op(22));
        x.last(r, 2);
        c.due("put aside", x.run(r, 0, 0), 1);
        c.tolds("put aside", x, OWN, r, 1, 5, 1, 0, 1, 1);
        c.due("NUMBER", x.number(), 5);
        c.due("LAST is done", x.output(0), 1);
        int s = Check.routine(x, 1, op(19, r, 0), op(26), op(26), op(0, 3), op(20));
        x.guard(s, 0, 1, OWN, 1);
        c.due("LEAVE passes it on", x.run(s, 0, 0), 0);
        c.due("CODE", x.output(1), OWN);
        c.due("NUMBER", x.output(2), 5);
        c.tolds("LEAVE passes it on", x, 0, NONE, NONE, 10, 1, 1, 1, 2);
        int u = Check.routine(x, 1, op(19, r, 0));
        c.due("where it came first", x.run(u, 0, 0), 1);
        c.tolds("where it came first", x, OWN, r, 1, 6, 1, 0, 1, 2);
    }

    private static void lastInLast() {
        StoryClasses x = new StoryClasses();
        int r = Check.routine(x, 1, op(0, 5), op(21), op(0, 1), op(20));
        x.last(r, 2);
        c.due("RETURN instead of a fault", x.run(r, 0, 0), 0);
        c.due("RETURN instead of a fault", x.result(), 1);
        c.tolds("RETURN instead of a fault", x, 0, NONE, NONE, 4, 1, 0, 1, 1);
        int s = Check.routine(x, 1, op(0, 5), op(20), op(0, 1), op(0, 0), op(6));
        x.last(s, 2);
        c.due("fault instead of a RETURN", x.run(s, 0, 0), 1);
        c.tolds("fault instead of a RETURN", x, ZERO, s, 4, 5, 1, 0, 1, 1);
        c.due("fault instead of a RETURN", x.result(), 0);
        int u = Check.routine(x, 1, op(0, 5), op(21), op(0, 6), op(21));
        x.last(u, 2);
        c.due("fault instead of a fault", x.run(u, 0, 0), 1);
        c.tolds("fault instead of a fault", x, OWN, u, 3, 4, 2, 0, 1, 1);
        c.due("fault instead of a fault", x.number(), 6);
    }

    private static void lastAndGuards() {
        StoryClasses x = new StoryClasses();
        // A fault in LAST is taken by a guard; what was put aside stays there.
        int r = Check.routine(x, 1, op(0, 5), op(20), op(0, 1), op(0, 0), op(6), op(26), op(22));
        x.last(r, 2);
        x.guard(r, 2, 5, ZERO, 5);
        c.due("guard in LAST", x.run(r, 0, 0), 0);
        c.due("guard in LAST", x.result(), 5);
        c.due("guard in LAST", x.output(0), ZERO);
        c.tolds("guard in LAST", x, 0, NONE, NONE, 7, 1, 1, 1, 1);
        // So does a fault that was put aside.
        int q = Check.routine(x, 1, op(0, 5), op(21), op(0, 1), op(0, 0), op(6), op(26), op(22));
        x.last(q, 2);
        x.guard(q, 2, 5, ZERO, 5);
        c.due("guard in LAST of a fault", x.run(q, 0, 0), 1);
        c.tolds("guard in LAST of a fault", x, OWN, q, 1, 7, 2, 1, 1, 1);
        c.due("guard in LAST of a fault", x.number(), 5);
        // The guard comes before LAST; no guard is asked at LEAVE.
        int s = Check.routine(x, 1, op(0, 5), op(21), op(0, 6), op(21), op(26), op(22));
        x.last(s, 4);
        x.guard(s, 0, 2, OWN, 2);
        x.guard(s, 4, 6, OWN, 2);
        c.due("no guard at LEAVE", x.run(s, 0, 0), 1);
        c.tolds("26 in LAST has no number", x, PILE, s, 4, 5, 3, 1, 1, 1);
        int u = Check.routine(x, 1, op(0, 5), op(21), op(0, 6), op(21), op(22));
        x.last(u, 4);
        x.guard(u, 0, 2, OWN, 2);
        x.guard(u, 4, 5, 0, 2);
        c.due("no guard at LEAVE", x.run(u, 0, 0), 1);
        c.tolds("no guard at LEAVE", x, OWN, u, 3, 5, 2, 1, 1, 1);
        c.due("no guard at LEAVE", x.number(), 6);
    }

    private static void lastAgain() {
        StoryClasses x = new StoryClasses();
        int r = Check.routine(x, 1, op(1, 0), op(20), op(0, 1), op(26), op(22));
        x.last(r, 2);
        int s = Check.routine(x, 1, op(0, 5), op(19, r, 1), op(0, 6), op(19, r, 1), op(3), op(20));
        c.due("LAST as it is open now", x.run(s, 0, 0), 0);
        c.due("LAST as it is open now", x.result(), 11);
        c.due("LAST began twice", x.told(6), 2);
        c.due("LAST was done twice", x.count(3, 0), 2);
        // The same place of opening: first a fault is put aside there, then a number.
        int u = Check.routine(x, 1, op(1, 0), op(21), op(22));
        x.last(u, 2);
        int v = Check.routine(x, 1, op(0, 5), op(19, u, 1), op(0, 6), op(19, r, 1), op(20));
        x.guard(v, 1, 2, OWN, 2);
        c.due("a number after a fault", x.run(v, 0, 0), 0);
        c.due("a number after a fault", x.result(), 6);
        c.due("and in the next run", x.run(r, 9, 0), 0);
        c.due("and in the next run", x.told(6), 1);
    }

    private static void leave() {
        StoryClasses x = new StoryClasses();
        c.faults("22 BEHIND", x, BEHIND, 0, op(22), op(0, 1), op(20));
        // LAST begins by that fault, and so it is what is put aside.
        int r = Check.routine(x, 1, op(22));
        x.last(r, 0);
        c.due("22 twice", x.run(r, 0, 0), 1);
        c.tolds("22 twice", x, BEHIND, r, 0, 2, 1, 0, 1, 1);
    }
}
