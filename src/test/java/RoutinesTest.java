/** Promises 10 to 13 and 19: routine, op, guard, last, count. */
public final class RoutinesTest {
    private static final int BAD = Check.BAD, FULL = Check.FULL, NONE = Check.NONE;
    private static final Check c = new Check();

    public static void main(String[] args) {
        routine();
        op();
        opNumbers();
        guard();
        last();
        count();
        c.end();
    }

    private static void routine() {
        StoryClasses x = new StoryClasses();
        c.due("10 low", x.routine(0), BAD);
        c.due("10 high", x.routine(7), BAD);
        for (int i = 0; i < 12; i++) {
            c.due("10 routine", x.routine(1 + i % 6), i);
            c.due("19 locals", x.count(4, i), 1 + i % 6);
        }
        c.due("10 full", x.routine(1), FULL);
        c.due("11 no 13th", x.op(12, 0, 0, 0), BAD);
        c.due("12 no 13th", x.guard(12, 0, 1, 0, 0), BAD);
        c.due("13 no 13th", x.last(12, 0), BAD);
        c.due("14 no 13th", x.run(12, 0, 0), BAD);
        c.due("19 no 13th", x.count(4, 12), BAD);
        c.due("10 bad before full", x.routine(0), BAD);
    }

    private static void op() {
        StoryClasses x = new StoryClasses();
        c.due("11 no routine", x.op(0, 0, 0, 0), BAD);
        x.routine(1);
        c.due("11 no routine", x.op(-1, 0, 0, 0), BAD);
        c.due("11 no routine", x.op(1, 0, 0, 0), BAD);
        c.due("11 low op", x.op(0, -1, 0, 0), BAD);
        c.due("11 high op", x.op(0, 30, 0, 0), BAD);
        for (int i = 0; i < 30; i++) {
            c.due("11 op", x.op(0, 0, i, 0), i);
        }
        c.due("11 full", x.op(0, 0, 0, 0), FULL);
        c.due("11 bad before full", x.op(0, 30, 0, 0), BAD);
        c.due("19 ops", x.count(5, 0), 30);
    }

    /** For each op the greatest a and b that it may have, the least being 0; -1: any number. */
    private static void opNumbers() {
        int[] highA = {-1, 3, 3, -1, -1, -1, -1, -1, -1, -1, 29, 29, 11, 11, 11, 11, 11, 11, 11, 11, -1, -1, -1, 8,
            -1, -1, -1, -1, -1, 11};
        int[] highB = {-1, -1, -1, -1, -1, -1, -1, -1, -1, -1, -1, -1, 7, 7, -1, 7, -1, 7, 7, 6, -1, -1, -1, -1,
            -1, -1, -1, -1, -1, 11};
        for (int op = 0; op < 30; op++) {
            StoryClasses x = new StoryClasses();
            x.routine(4);
            int most = highA[op] < 0 ? Integer.MAX_VALUE : highA[op];
            int mostB = highB[op] < 0 ? Integer.MAX_VALUE : highB[op];
            c.due("11 least", x.op(0, op, 0, 0), 0);
            c.due("11 most", x.op(0, op, most, mostB), 1);
            c.due("11 low a of " + op, x.op(0, op, -1, 0), highA[op] < 0 ? 2 : BAD);
            c.due("11 high a of " + op, x.op(0, op, most + 1, 0), highA[op] < 0 ? 3 : BAD);
            int n = x.count(5, 0);
            c.due("11 low b of " + op, x.op(0, op, 0, -1), highB[op] < 0 ? n : BAD);
            c.due("11 high b of " + op, x.op(0, op, 0, mostB + 1), highB[op] < 0 ? n + 1 : BAD);
        }
    }

    private static void guard() {
        StoryClasses x = new StoryClasses();
        c.due("12 no routine", x.guard(0, 0, 1, 0, 0), BAD);
        x.routine(1);
        c.due("12 no routine", x.guard(-1, 0, 1, 0, 0), BAD);
        c.due("12 from low", x.guard(0, -1, 1, 0, 0), BAD);
        c.due("12 from is to", x.guard(0, 5, 5, 0, 0), BAD);
        c.due("12 from above to", x.guard(0, 6, 5, 0, 0), BAD);
        c.due("12 to high", x.guard(0, 5, 31, 0, 0), BAD);
        c.due("12 code low", x.guard(0, 0, 1, -1, 0), BAD);
        c.due("12 code high", x.guard(0, 0, 1, 13, 0), BAD);
        c.due("12 handler low", x.guard(0, 0, 1, 0, -1), BAD);
        c.due("12 handler high", x.guard(0, 0, 1, 0, 30), BAD);
        c.due("12 guard", x.guard(0, 0, 1, 0, 0), 0);
        c.due("12 guard", x.guard(0, 29, 30, 12, 29), 1);
        c.due("12 guard", x.guard(0, 0, 30, 6, 3), 2);
        c.due("12 guard", x.guard(0, 0, 30, 6, 3), 3);
        c.due("12 full", x.guard(0, 0, 30, 6, 3), FULL);
        c.due("12 bad before full", x.guard(0, 0, 31, 6, 3), BAD);
        c.due("19 guards", x.count(6, 0), 4);
    }

    private static void last() {
        StoryClasses x = new StoryClasses();
        c.due("13 no routine", x.last(0, 0), BAD);
        x.routine(1);
        c.due("13 at first", x.last(0, 29), NONE);
        c.due("13 low", x.last(0, -2), BAD);
        c.due("13 high", x.last(0, 30), BAD);
        c.due("13 was", x.last(0, 0), 29);
        c.due("13 was", x.last(0, NONE), 0);
        c.due("13 was", x.last(0, NONE), NONE);
        c.due("13 no routine", x.last(-1, 0), BAD);
        c.due("13 no routine", x.last(1, 0), BAD);
    }

    private static void count() {
        StoryClasses x = new StoryClasses();
        c.due("19 no routine", x.count(4, 0), BAD);
        c.due("19 no routine", x.count(5, 0), BAD);
        c.due("19 no routine", x.count(6, 0), BAD);
        int r = Check.routine(x, 3, Check.op(0, 7), Check.op(26), Check.op(27), Check.op(20));
        x.guard(r, 0, 1, 0, 0);
        x.thing(0);
        x.thing(1);
        x.run(r, 0, 0);
        c.due("19 things", x.count(0, 99), 2);
        c.due("19 routines", x.count(1, -99), 1);
        c.due("19 kept", x.count(2, 99), 1);
        c.due("19 output", x.count(3, 99), 1);
        c.due("19 locals", x.count(4, 0), 3);
        c.due("19 ops", x.count(5, 0), 4);
        c.due("19 guards", x.count(6, 0), 1);
        c.due("19 low", x.count(-1, 0), BAD);
        c.due("19 high", x.count(7, 0), BAD);
        c.due("19 no routine", x.count(4, 1), BAD);
        c.due("19 no routine", x.count(5, -1), BAD);
    }
}
