import java.util.ArrayList;
import java.util.List;
import java.util.function.ToLongFunction;

/**
 * "what is refused changes nothing": of two stories that are told alike one is asked what is to be refused, and then
 * all that can be asked, and be done, is the same in both. So it is with calls that only ask.
 */
public final class RefusedTest {
    private static final int BAD = Check.BAD, FULL = Check.FULL, NONE = Check.NONE;
    private static final int LOW = Integer.MIN_VALUE, HIGH = Integer.MAX_VALUE;
    private static final Check c = new Check();

    public static void main(String[] args) {
        rows();
        things();
        routines();
        ops();
        guards();
        lasts();
        runs();
        asking();
        full();
        c.end();
    }

    private static int[] op(int... numbers) {
        return Check.op(numbers);
    }

    /** A story in which there is something of all; with all that can be full, or with room for more. */
    private static StoryClasses story(boolean isFull) {
        StoryClasses x = new StoryClasses();
        x.row(0, 5, 3);
        x.put(0, 2, 7);
        x.row(4, 2, 12);
        x.share(7, 0);
        x.row(11, 6, 0);
        for (int t = 0; t < (isFull ? 12 : 6); t++) {
            x.thing(t % 6);
        }
        int r = Check.routine(x, 2, op(27), op(26), op(0, 5), op(0, 3), op(23, 1), op(26), op(0, 0), op(0, 1), op(0, 5),
            op(24), op(1, 0), op(21));
        x.guard(r, 0, 5, 2, 3);
        x.last(r, 6);
        x.run(r, 44, 0);
        for (int i = 12; i < (isFull ? 30 : 13); i++) {
            x.op(r, 0, i, 0);
        }
        for (int i = 1; i < (isFull ? 4 : 2); i++) {
            x.guard(r, i, 30, 12, 2);
        }
        Check.routine(x, 1, op(28), op(20));
        for (int i = 2; i < (isFull ? 12 : 3); i++) {
            x.routine(1 + i % 6);
        }
        return x;
    }

    /** All that can be asked of it; then what its routines do, with what was kept, and where their last begins. */
    private static List<Long> all(StoryClasses x) {
        List<Long> told = new ArrayList<>();
        latestRun(x, told);
        memory(x, told);
        things(x, told);
        for (int k = 0; k < x.count(1, 0); k++) {
            for (int what = 4; what < 7; what++) {
                told.add((long) x.count(what, k));
            }
        }
        told.add((long) x.run(1, 0, 0));
        memory(x, told);
        told.add((long) x.run(0, 3, 4));
        latestRun(x, told);
        for (int k = 0; k < x.count(1, 0); k++) {
            told.add((long) x.last(k, NONE));
        }
        told.add((long) x.forget());
        return told;
    }

    private static void latestRun(StoryClasses x, List<Long> told) {
        for (int what = 0; what < 8; what++) {
            told.add((long) x.told(what));
        }
        for (int what = 0; what < 4; what++) {
            told.add((long) x.count(what, 0));
        }
        for (int i = 0; i < 3; i++) {
            told.add(x.output(i));
        }
        told.add(x.result());
        told.add(x.number());
    }

    private static void memory(StoryClasses x, List<Long> told) {
        for (int r = 0; r < 12; r++) {
            for (int what = 0; what < 3; what++) {
                told.add((long) x.about(r, what));
            }
            for (int i = 0; i < 3; i++) {
                told.add(x.item(r, i));
            }
        }
    }

    private static void things(StoryClasses x, List<Long> told) {
        for (int t = 0; t < x.count(0, 0); t++) {
            for (int what = 0; what < 7; what++) {
                told.add((long) x.of(t, what));
            }
        }
    }

    private static void refused(String what, long answer, boolean isFull, ToLongFunction<StoryClasses> call) {
        StoryClasses x = story(isFull);
        c.due(what, call.applyAsLong(x), answer);
        List<Long> got = all(x);
        List<Long> want = all(story(isFull));
        c.due(what + ": as much is told", got.size(), want.size());
        for (int i = 0; i < Math.min(got.size(), want.size()); i++) {
            c.due(what + ": told " + i, got.get(i), want.get(i));
        }
    }

    private static void bad(String what, ToLongFunction<StoryClasses> call) {
        refused(what, BAD, false, call);
        refused(what, BAD, true, call);
    }

    private static void rows() {
        for (int r : new int[] {-1, 12, LOW, HIGH}) {
            bad("2 row", x -> x.row(r, 4, 1));
            bad("3 miss", x -> x.miss(r));
            bad("4 share", x -> x.share(r, 0));
            bad("4 share", x -> x.share(0, r));
            bad("5 put", x -> x.put(r, 0, 1));
            bad("7 about", x -> x.about(r, 0));
        }
        bad("2 lane", x -> x.row(0, -1, 1));
        bad("2 lane", x -> x.row(0, 8, 1));
        refused("2 SIZE", -15, false, x -> x.row(0, 4, -1));
        refused("2 ARGUMENT", -17, false, x -> x.row(0, 4, 13));
        refused("2 SIZE", -15, false, x -> x.row(1, 4, LOW));
        refused("2 ARGUMENT", -17, false, x -> x.row(1, 4, HIGH));
        refused("5 NOTHING", -11, false, x -> x.put(1, 0, 1));
        refused("5 INDEX", -12, false, x -> x.put(0, 3, 1));
        refused("5 INDEX", -12, false, x -> x.put(0, -1, 1));
        refused("5 INDEX", -12, false, x -> x.put(11, 0, 1));
        refused("5 INDEX", -12, false, x -> x.put(4, 12, 1));
        refused("3 it was", 0, false, x -> x.miss(1));
        refused("4 it was", 0, false, x -> x.share(0, 7));
        refused("4 it was", 0, false, x -> x.share(7, 0));
        refused("4 it was", 0, false, x -> x.share(1, 2));
    }

    private static void things() {
        bad("8 kind", x -> x.thing(-1));
        bad("8 kind", x -> x.thing(6));
    }

    private static void routines() {
        bad("10 locals", x -> x.routine(0));
        bad("10 locals", x -> x.routine(7));
    }

    private static void ops() {
        for (int r : new int[] {-1, 12, LOW, HIGH}) {
            bad("11 routine", x -> x.op(r, 0, 0, 0));
        }
        refused("11 routine", BAD, false, x -> x.op(3, 0, 0, 0));
        int[][] wrong = {{-1, 0, 0}, {30, 0, 0}, {1, -1, 0}, {1, 2, 0}, {2, 2, 0}, {10, 30, 0}, {11, -1, 0},
            {12, 12, 0}, {12, 0, 8}, {13, 0, -1}, {14, 12, 0}, {15, 0, 8}, {16, -1, 0}, {17, 0, 8}, {18, 12, 0},
            {19, 12, 0}, {19, 0, 7}, {19, 0, -1}, {23, 9, 0}, {23, -1, 0}, {29, 12, 0}, {29, 0, 12}};
        for (int[] o : wrong) {
            bad("11 op " + o[0] + ", " + o[1] + ", " + o[2], x -> x.op(0, o[0], o[1], o[2]));
        }
    }

    private static void guards() {
        for (int r : new int[] {-1, 12, LOW, HIGH}) {
            bad("12 routine", x -> x.guard(r, 0, 1, 0, 0));
        }
        refused("12 routine", BAD, false, x -> x.guard(3, 0, 1, 0, 0));
        int[][] wrong = {{-1, 1, 0, 0}, {1, 1, 0, 0}, {2, 1, 0, 0}, {0, 31, 0, 0}, {0, 30, -1, 0}, {0, 30, 13, 0},
            {0, 30, 0, -1}, {0, 30, 0, 30}};
        for (int[] g : wrong) {
            bad("12 guard", x -> x.guard(0, g[0], g[1], g[2], g[3]));
        }
    }

    private static void lasts() {
        for (int r : new int[] {-1, 12, LOW, HIGH}) {
            bad("13 routine", x -> x.last(r, 0));
        }
        refused("13 routine", BAD, false, x -> x.last(3, 0));
        for (int place : new int[] {-2, 30, LOW, HIGH}) {
            bad("13 place", x -> x.last(0, place));
        }
    }

    private static void runs() {
        for (int r : new int[] {-1, 12, LOW, HIGH}) {
            bad("14 routine", x -> x.run(r, 0, 0));
        }
        bad("14 no OPS", x -> x.run(2, 0, 0));
        refused("14 routine", BAD, false, x -> x.run(3, 0, 0));
    }

    private static void asking() {
        bad("7 what", x -> x.about(0, -1));
        bad("7 what", x -> x.about(0, 3));
        bad("16 what", x -> x.told(-1));
        bad("16 what", x -> x.told(8));
        bad("19 what", x -> x.count(-1, 0));
        bad("19 what", x -> x.count(7, 0));
        bad("19 routine", x -> x.count(4, -1));
        bad("19 routine", x -> x.count(5, 12));
        refused("6 none such", 0, false, x -> x.item(0, 3));
        refused("6 none such", 0, false, x -> x.item(12, 0));
        refused("9 none such", 0, false, x -> x.of(6, 4));
        refused("9 none such", 0, false, x -> x.of(0, 9));
        refused("18 none such", 0, false, x -> x.output(60));
        refused("18 none such", 0, false, x -> x.output(-1));
    }

    private static void full() {
        refused("8 FULL", FULL, true, x -> x.thing(0));
        refused("10 FULL", FULL, true, x -> x.routine(1));
        refused("11 FULL", FULL, true, x -> x.op(0, 0, 0, 0));
        refused("12 FULL", FULL, true, x -> x.guard(0, 0, 1, 0, 0));
    }
}
