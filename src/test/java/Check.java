/** Counts answers that are not the due ones, and tells stories in one line. */
final class Check {
    static final int BAD = StoryClasses.BAD, FULL = StoryClasses.FULL, NONE = StoryClasses.NONE;

    private int asked;
    private int wrong;

    void due(String call, long got, long want) {
        asked++;
        if (got != want) {
            wrong++;
            System.out.println(call + " answered " + got + ", due is " + want);
        }
    }

    void end() {
        System.out.println(asked + " answers, " + wrong + " not as due");
        if (wrong != 0 || asked == 0) {
            System.exit(1);
        }
    }

    /** An op as a row of one to three numbers. */
    static int[] op(int... numbers) {
        return numbers;
    }

    /** A new routine with these ops: its number. */
    static int routine(StoryClasses x, int locals, int[]... ops) {
        int r = x.routine(locals);
        for (int[] o : ops) {
            int place = x.op(r, o[0], o.length > 1 ? o[1] : 0, o.length > 2 ? o[2] : 0);
            if (place < 0) {
                throw new IllegalStateException("op " + o[0] + " is refused: " + place);
            }
        }
        return r;
    }

    /** Runs these ops as a new routine of a story. */
    int play(StoryClasses x, int[]... ops) {
        return x.run(routine(x, 2, ops), 0, 0);
    }

    /** The ops end with a RETURN of this. */
    void returns(String what, StoryClasses x, long want, int[]... ops) {
        due(what + ": run", play(x, ops), 0);
        due(what + ": result", x.result(), want);
    }

    /** The ops end with a fault of this code, at this place. */
    void faults(String what, StoryClasses x, int code, int place, int[]... ops) {
        due(what + ": run", play(x, ops), 1);
        due(what + ": code", x.told(0), code);
        due(what + ": place", x.told(2), place);
        due(what + ": result", x.result(), 0);
    }
}
