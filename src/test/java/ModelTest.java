import java.util.Random;

/** Many stories told at random, the same each time, to the class and to the model: all answers are the same. */
public final class ModelTest {
    private static final int STORIES = 9000;
    private static final int CALLS = 512;
    // So many are left for the end, when the stories are compared.
    private static final int LEFT = 150;
    private static final Check c = new Check();
    private static final long[] ENDS = {0, 1, -1, 2, 3, 9, 10, 12, 13, 127, 128, 255, 256, 32767, 32768, 65535, 65536,
        16777217, 33554435, Integer.MAX_VALUE, Integer.MIN_VALUE, 1L << 32, 9007199254740993L, Long.MAX_VALUE,
        Long.MIN_VALUE, -9007199254740995L};
    // How many numbers an op takes, and whether it lays one: so that most stories get on.
    private static final int[] TAKES = {0, 0, 1, 2, 2, 2, 2, 2, 2, 2, 0, 1, 1, 2, 0, 1, 0, 1, 2, 1, 1, 1, 0, 1, 3, 2, 1,
        0, 0, 0};

    private final Random random;
    private final StoryClasses x = new StoryClasses();
    private final Model m = new Model();
    private final int story;
    private final int[] seen = new int[3];
    private int calls;

    private ModelTest(int story) {
        this.story = story;
        this.random = new Random(story);
    }

    public static void main(String[] args) {
        int[] seen = new int[3];
        int[] codes = new int[13];
        for (int i = 0; i < STORIES; i++) {
            ModelTest t = new ModelTest(i);
            t.tell(codes);
            for (int k = 0; k < 3; k++) {
                seen[k] += t.seen[k];
            }
        }
        for (int k = 0; k < 3; k++) {
            c.due("runs that end with " + k + " are many", seen[k] > 500 ? 1 : 0, 1);
        }
        for (int k = 1; k < 13; k++) {
            c.due("runs that end with the fault " + k + " are some", codes[k] > 20 ? 1 : 0, 1);
        }
        c.end();
    }

    private void same(String call, long got, long want) {
        calls++;
        c.due("story " + story + ", call " + calls + ": " + call, got, want);
    }

    private int below(int n) {
        return random.nextInt(n);
    }

    private boolean one(int in) {
        return random.nextInt(in) == 0;
    }

    private int near(int low, int high) {
        return one(30) ? (one(2) ? low - 1 : high + 1) : low + below(high - low + 1);
    }

    private void tell(int[] codes) {
        int things = below(13);
        for (int i = 0; i < things; i++) {
            thing();
        }
        for (int i = 0; i < 8; i++) {
            row();
        }
        int routines = 1 + below(4);
        for (int i = 0; i < routines; i++) {
            routine();
        }
        while (calls < CALLS - LEFT) {
            switch (below(8)) {
                case 0:
                    row();
                    break;
                case 1:
                    memory();
                    break;
                case 2:
                    thing();
                    break;
                case 3:
                    looseEnds();
                    break;
                default:
                    run(codes);
                    break;
            }
        }
        compare();
    }

    private void thing() {
        int kind = near(0, 5);
        same("thing", x.thing(kind), m.thing(kind));
    }

    private void row() {
        int r = near(0, 11);
        int lane = near(0, 7);
        int n = near(0, 12);
        same("row", x.row(r, lane, n), m.row(r, lane, n));
    }

    private void memory() {
        int r = near(0, 11);
        int s = near(0, 11);
        long v = value();
        switch (below(4)) {
            case 0:
                same("miss", x.miss(r), m.miss(r));
                break;
            case 1:
                same("share", x.share(r, s), m.share(r, s));
                break;
            case 2:
                same("put", x.put(r, s, v), m.put(r, s, v));
                break;
            default:
                same("item", x.item(r, s), m.item(r, s));
                break;
        }
    }

    private long value() {
        return one(2) ? ENDS[below(ENDS.length)] : below(12);
    }

    private void looseEnds() {
        int r = near(0, 5);
        switch (below(5)) {
            case 0:
                same("forget", x.forget(), m.forget());
                break;
            case 1:
                int place = near(-1, 29);
                same("last", x.last(r, place), m.last(r, place));
                break;
            case 2:
                guard(r);
                break;
            case 3:
                routine();
                break;
            default:
                int[] o = randomOp(6);
                same("op", x.op(r, o[0], o[1], o[2]), m.op(r, o[0], o[1], o[2]));
                break;
        }
    }

    private void guard(int r) {
        int from = near(0, 20);
        int to = one(20) ? from : from + 1 + below(10);
        int code = one(2) ? 0 : near(0, 12);
        int handler = near(0, 25);
        same("guard", x.guard(r, from, to, code, handler), m.guard(r, from, to, code, handler));
    }

    private void routine() {
        int locals = near(1, 6);
        int r = x.routine(locals);
        same("routine", r, m.routine(locals));
        if (r < 0) {
            return;
        }
        int n = 4 + below(28);
        int height = 0;
        for (int i = 0; i < n && calls < CALLS - LEFT; i++) {
            int[] o = randomOp(locals);
            int takes = o[0] == 19 ? o[2] : o[0] == 23 && (o[1] == 1 || o[1] >= 6) ? 2 : TAKES[o[0]];
            if ((takes > height || height > 6 && takes == 0) && !one(12)) {
                o = height > 6 ? new int[] {26, 0, 0} : new int[] {one(3) ? 1 : 0, 0, 0};
                o[1] = o[0] == 1 ? below(locals) : (int) value();
                takes = o[0] == 26 ? 1 : 0;
            }
            same("op", x.op(r, o[0], o[1], o[2]), m.op(r, o[0], o[1], o[2]));
            height = Math.max(0, height - takes) + (lays(o[0]) ? 1 : 0);
        }
        int guards = below(4);
        for (int i = 0; i < guards; i++) {
            guard(r);
        }
        if (one(2)) {
            int place = near(-1, Math.min(n, 29));
            same("last", x.last(r, place), m.last(r, place));
        }
    }

    private static boolean lays(int op) {
        return op <= 1 || op >= 3 && op <= 9 || op == 12 || op == 14 || op == 17 || op == 19 || op == 23 || op == 25
            || op >= 27 && op <= 28;
    }

    private int[] randomOp(int locals) {
        int op = below(30);
        int a = (int) value();
        int b = below(8);
        if (op == 1 || op == 2) {
            a = near(0, locals - 1);
        } else if (op == 10 || op == 11) {
            a = near(0, 29);
        } else if (op >= 12 && op <= 18 || op == 29) {
            a = near(0, 11);
        } else if (op == 19) {
            a = near(0, 3);
            b = near(0, 3);
        } else if (op == 23) {
            a = near(0, 8);
        }
        return new int[] {op, a, b};
    }

    private void run(int[] codes) {
        int r = near(0, Math.max(0, m.count(1, 0) - 1));
        long p = value();
        long q = value();
        int got = x.run(r, p, q);
        same("run", got, m.run(r, p, q));
        if (got >= 0) {
            seen[got]++;
            codes[m.told(0)]++;
        }
        same("result", x.result(), m.result());
        same("number", x.number(), m.number());
        for (int what = 0; what < 8; what++) {
            same("told " + what, x.told(what), m.told(what));
        }
        int n = m.count(3, 0);
        same("count", x.count(3, 0), n);
        for (int i = 0; i <= Math.min(n, 60); i += 1 + n / 4) {
            same("output", x.output(i), m.output(i));
        }
    }

    /** Asks for all kinds of things, here and there, until no call is left. */
    private void compare() {
        while (calls < CALLS) {
            int r = below(12);
            int i = below(12);
            switch (below(5)) {
                case 0:
                    same("about", x.about(r, i % 3), m.about(r, i % 3));
                    break;
                case 1:
                    same("item", x.item(r, i), m.item(r, i));
                    break;
                case 2:
                    same("of", x.of(r, i), m.of(r, i));
                    break;
                case 3:
                    same("count", x.count(i % 7, r), m.count(i % 7, r));
                    break;
                default:
                    same("output", x.output(5 * r + i), m.output(5 * r + i));
                    break;
            }
        }
    }
}
