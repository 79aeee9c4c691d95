/** Counts answers that are not the due ones, and tells stories in one line. */
final class Check {
    static final int BAD = StoryClasses.BAD, FULL = StoryClasses.FULL, NONE = StoryClasses.NONE;
    static final int NOTHING = 1, INDEX = 2, CAST = 3, STORE = 4, SIZE = 5, ZERO = 6, ARGUMENT = 7, PILE = 8, DEEP = 9;
    static final int BEHIND = 10, OWN = 11, DUMB = 12;

    private int asked;
    private int wrong;

    void due(String call, long got, long want) {
        asked++;
        if (got != want) {
            wrong++;
            System.out.println(call + " answered " + got + ", due is " + want);
        }
    }

    void end() {
        System.out.println(asked + " answers, " + wrong + " not as due");
        if (wrong != 0 || asked == 0) {
            System.exit(1);
        }
    }

    /** An op as a row of one to three numbers. */
    static int[] op(int... numbers) {
        return numbers;
    }

    /** Ops that lay so many numbers, and then these. */
    static int[][] onPile(int laid, int[]... ops) {
        int[][] all = new int[laid + ops.length][];
        for (int i = 0; i < laid; i++) {
            all[i] = op(0, i + 1);
        }
        System.arraycopy(ops, 0, all, laid, ops.length);
        return all;
    }

    /** A new routine with these ops: its number. */
    static int routine(StoryClasses x, int locals, int[]... ops) {
        int r = x.routine(locals);
        for (int[] o : ops) {
            int place = x.op(r, o[0], o.length > 1 ? o[1] : 0, o.length > 2 ? o[2] : 0);
            if (place < 0) {
                throw new IllegalStateException("op " + o[0] + " is refused: " + place);
            }
        }
        return r;
    }

    /** Runs these ops as a new routine of a story. */
    int play(StoryClasses x, int[]... ops) {
        return x.run(routine(x, 2, ops), 0, 0);
    }

    /** The ops end with a RETURN of this. */
    void returns(String what, StoryClasses x, long want, int[]... ops) {
        gives(what, x, routine(x, 2, ops), 0, 0, want);
    }

    /** The ops end with a fault of this code, at this place. */
    void faults(String what, StoryClasses x, int code, int place, int[]... ops) {
        fails(what, x, routine(x, 2, ops), 0, 0, code, place);
    }

    /** The run of a routine ends with a RETURN of this. */
    void gives(String what, StoryClasses x, int routine, long a, long b, long want) {
        due(what + ": run", x.run(routine, a, b), 0);
        due(what + ": result", x.result(), want);
        due(what + ": code", x.told(0), 0);
    }

    /** The run of a routine ends with a fault of this code, at this place of its own. */
    void fails(String what, StoryClasses x, int routine, long a, long b, int code, int place) {
        due(what + ": run", x.run(routine, a, b), 1);
        due(what + ": code", x.told(0), code);
        due(what + ": routine", x.told(1), routine);
        due(what + ": place", x.told(2), place);
        due(what + ": result", x.result(), 0);
    }

    /** What the latest run tells, from told(0) on. */
    void tolds(String what, StoryClasses x, int... want) {
        for (int i = 0; i < want.length; i++) {
            due(what + ": told " + i, x.told(i), want[i]);
        }
    }
}
