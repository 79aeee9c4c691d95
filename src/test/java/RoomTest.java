import java.lang.management.ManagementFactory;

/** The room of a run of calls: only the object itself and its routines are made; no run makes anything. */
public final class RoomTest {
    private static final Check c = new Check();

    public static void main(String[] args) {
        // Once before, so that the classes are loaded.
        new StoryClasses().run(0, 0, 0);
        long before = made();
        StoryClasses x = new StoryClasses();
        long after = made();
        c.due("a new object is small: " + (after - before), after - before < 40_000 ? 1 : 0, 1);

        // The dearest runs: new rows all the time, calls, keepings and bringings back.
        for (int kind = 0; kind < 12; kind++) {
            x.thing(kind % 6);
        }
        int rows = Check.routine(x, 1, Check.op(0, 12), Check.op(15, 0, 5), Check.op(10, 0));
        int calls = Check.routine(x, 1, Check.op(19, 1, 0), Check.op(26), Check.op(10, 0));
        x.guard(calls, 0, 1, 0, 1);
        int keeps = Check.routine(x, 1, Check.op(27), Check.op(26), Check.op(28), Check.op(26), Check.op(10, 0));
        play(x, rows, calls, keeps, 10);
        before = made();
        play(x, rows, calls, keeps, 100);
        after = made();
        c.due("runs make nothing: " + (after - before), after - before < 2_000 ? 1 : 0, 1);
        c.end();
    }

    private static void play(StoryClasses x, int rows, int calls, int keeps, int times) {
        int spent = 0;
        for (int i = 0; i < times; i++) {
            spent += x.run(rows, 0, 0) + x.run(calls, 0, 0);
            x.run(keeps, 0, 0);
            x.row(i % 12, 7, 12);
        }
        if (spent != 4 * times) {
            c.due("runs that are spent", spent, 4 * times);
        }
    }

    private static long made() {
        java.lang.management.ThreadMXBean threads = ManagementFactory.getThreadMXBean();
        if (threads instanceof com.sun.management.ThreadMXBean counting) {
            return counting.getThreadAllocatedBytes(Thread.currentThread().getId());
        }
        return 0;
    }
}
