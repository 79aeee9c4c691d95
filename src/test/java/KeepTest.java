/** The ops 27 and 28, which keep and bring back, and promise 20, forget. */
public final class KeepTest {
    private static final int ARGUMENT = 7, NONE = Check.NONE;
    private static final Check c = new Check();

    public static void main(String[] args) {
        forget();
        countsKept();
        sevenths();
        rowsComeBack();
        sharedRows();
        rowsAfterBringingBack();
        thingsComeBack();
        thingsThatCameSince();
        latestFirst();
        c.end();
    }

    private static int[] op(int... numbers) {
        return Check.op(numbers);
    }

    private static int keeper(StoryClasses x) {
        return Check.routine(x, 1, op(27), op(20));
    }

    private static int bringer(StoryClasses x) {
        return Check.routine(x, 1, op(28), op(20));
    }

    private static void plays(String what, StoryClasses x, int routine, long want) {
        c.due(what, x.run(routine, 0, 0), 0);
        c.due(what, x.result(), want);
    }

    private static void forget() {
        StoryClasses x = new StoryClasses();
        int keep = keeper(x);
        int back = bringer(x);
        c.due("20 none", x.forget(), 0);
        plays("27", x, keep, 1);
        plays("27", x, keep, 2);
        c.due("20 how many", x.forget(), 2);
        c.due("20 then none", x.count(2, 0), 0);
        c.due("20 then none", x.forget(), 0);
        x.row(0, 4, 1);
        plays("28 none", x, back, 0);
        c.due("28 none: nothing changes", x.about(0, 0), 1);
    }

    private static void countsKept() {
        StoryClasses x = new StoryClasses();
        int keep = keeper(x);
        int back = bringer(x);
        plays("27", x, keep, 1);
        plays("27", x, keep, 2);
        plays("27", x, keep, 3);
        c.due("27 3 are kept", x.run(keep, 0, 0), 1);
        c.due("27 3 are kept", x.told(0), ARGUMENT);
        c.due("27 3 are kept", x.count(2, 0), 3);
        for (int i = 3; i > 0; i--) {
            plays("28", x, back, 1);
            c.due("28 which goes", x.count(2, 0), i - 1);
        }
        plays("28", x, back, 0);
    }

    private static void sevenths() {
        StoryClasses x = new StoryClasses();
        int[][] ops = new int[30][];
        for (int i = 0; i < 7; i++) {
            ops[4 * i] = op(27);
            ops[4 * i + 1] = op(26);
            ops[4 * i + 2] = op(28);
            ops[4 * i + 3] = op(26);
        }
        ops[28] = op(0, 0);
        ops[29] = op(20);
        int r = Check.routine(x, 1, ops);
        for (int again = 0; again < 2; again++) {
            c.due("27 the 7th keeping", x.run(r, 0, 0), 1);
            c.due("27 the 7th keeping", x.told(0), ARGUMENT);
            c.due("27 the 7th keeping", x.told(2), 24);
            c.due("27 none is kept", x.count(2, 0), 0);
        }
        // A keeping that is refused does not count.
        StoryClasses z = new StoryClasses();
        int t = Check.routine(z, 1, op(27), op(27), op(27), op(27), op(28), op(26), op(28), op(26), op(28), op(26),
            op(27), op(26), op(27), op(26), op(27), op(26), op(28), op(26), op(27), op(20));
        z.guard(t, 3, 4, ARGUMENT, 4);
        c.due("27 refused", z.run(t, 0, 0), 1);
        c.due("27 refused", z.told(0), ARGUMENT);
        c.due("27 refused", z.told(2), 18);
        c.due("27 refused", z.count(2, 0), 2);
    }

    private static void rowsComeBack() {
        StoryClasses x = new StoryClasses();
        int keep = keeper(x);
        int back = bringer(x);
        x.row(0, 4, 2);
        x.put(0, 1, 7);
        x.row(1, 6, 3);
        plays("27", x, keep, 1);
        x.put(0, 1, 8);
        x.row(1, 5, 12);
        x.row(2, 5, 12);
        plays("28", x, back, 1);
        c.due("28 item", x.item(0, 1), 7);
        c.due("28 lane", x.about(1, 1), 6);
        c.due("28 size", x.about(1, 0), 3);
        c.due("28 missing again", x.about(2, 0), NONE);
        c.due("28 then a new one", x.row(2, 5, 12), 12);
        c.due("28 the others stay", x.item(0, 1), 7);
        c.due("28 the others stay", x.about(2, 2), 2);
    }

    private static void sharedRows() {
        StoryClasses x = new StoryClasses();
        int keep = keeper(x);
        int back = bringer(x);
        x.row(3, 4, 2);
        x.share(5, 3);
        x.row(6, 4, 2);
        plays("27", x, keep, 1);
        x.miss(3);
        x.share(6, 5);
        x.put(5, 0, 99);
        plays("28", x, back, 1);
        c.due("28 one as one", x.about(5, 2), 3);
        c.due("28 others apart", x.about(6, 2), 6);
        c.due("28 item", x.item(5, 0), 0);
        x.put(3, 0, 4);
        c.due("28 the same one", x.item(5, 0), 4);
        c.due("28 not the same", x.item(6, 0), 0);
        c.due("28 still used by the other", x.miss(3), 1);
        c.due("28 a new one beside it", x.row(0, 5, 12), 12);
        c.due("28 a new one beside it", x.item(5, 0), 4);
    }

    /** What came back is apart from what is made new then, whatever was there between. */
    private static void rowsAfterBringingBack() {
        StoryClasses x = new StoryClasses();
        int keep = keeper(x);
        int back = bringer(x);
        for (int r = 0; r < 6; r++) {
            x.row(r, 5, 1);
            x.put(r, 0, r + 1);
        }
        plays("27", x, keep, 1);
        for (int r = 0; r < 12; r++) {
            x.miss(r);
        }
        plays("28", x, back, 1);
        for (int r = 6; r < 12; r++) {
            x.row(r, 5, 1);
            x.put(r, 0, r + 1);
        }
        for (int r = 0; r < 12; r++) {
            c.due("28 apart", x.item(r, 0), r + 1);
            c.due("28 apart", x.about(r, 2), r);
        }
    }

    private static void thingsComeBack() {
        StoryClasses x = new StoryClasses();
        for (int kind = 0; kind < 6; kind++) {
            x.thing(kind);
        }
        int change = Check.routine(x, 2, op(1, 0), op(1, 1), op(23, 1), op(26), op(1, 0), op(1, 1), op(23, 6), op(26),
            op(1, 0), op(0, 0), op(1, 0), op(24), op(0, 0), op(20));
        int keep = keeper(x);
        int back = bringer(x);
        for (int t = 0; t < 6; t++) {
            c.due("change", x.run(change, t, 3), 0);
        }
        plays("27", x, keep, 1);
        int mark = Check.routine(x, 2, op(1, 0), op(1, 1), op(23, 7), op(20));
        int lantern = Check.routine(x, 2, op(0, 5), op(0, 77), op(23, 8), op(20));
        int empty = Check.routine(x, 2, op(1, 0), op(0, 0), op(0, -1), op(24), op(0, 0), op(20));
        for (int t = 0; t < 6; t++) {
            c.due("change", x.run(change, t, 4), 0);
            c.due("change", x.run(empty, t, 4), 0);
            c.due("change", x.of(t, 1), 7);
            c.due("change", x.of(t, 5), NONE);
            x.run(mark, t, 66);
        }
        c.due("change", x.of(1, 3), 66);
        x.run(lantern, 0, 0);
        c.due("change", x.of(5, 3), 77);
        plays("28", x, back, 1);
        for (int t = 0; t < 6; t++) {
            c.due("28 count", x.of(t, 1), 3);
            c.due("28 mark", x.of(t, 2), 3);
            c.due("28 own mark", x.of(t, 3), t == 2 || t == 3 ? 1 : 0);
            c.due("28 shelf", x.of(t, 5), t);
        }
    }

    private static void thingsThatCameSince() {
        StoryClasses x = new StoryClasses();
        int keep = keeper(x);
        int back = bringer(x);
        int set = Check.routine(x, 2, op(1, 0), op(1, 1), op(23, 1), op(20));
        int lay = Check.routine(x, 2, op(1, 0), op(0, 3), op(1, 1), op(24), op(0, 0), op(20));
        x.thing(0);
        plays("27", x, keep, 1);
        c.due("thing", x.thing(0), 1);
        x.run(set, 0, 5);
        x.run(set, 1, 6);
        x.run(lay, 0, 1);
        x.run(lay, 1, 0);
        plays("28", x, back, 1);
        c.due("28 becomes again", x.of(0, 1), 0);
        c.due("28 becomes again", x.of(0, 8), NONE);
        c.due("28 stays", x.of(1, 1), 6);
        c.due("28 stays", x.of(1, 8), 0);
        c.due("28 stays", x.count(0, 0), 2);
        c.due("then the next", x.thing(3), 2);
    }

    private static void latestFirst() {
        StoryClasses x = new StoryClasses();
        int keep = keeper(x);
        int back = bringer(x);
        for (int i = 1; i <= 3; i++) {
            x.row(0, 5, i);
            plays("27", x, keep, i);
        }
        x.miss(0);
        for (int i = 3; i > 0; i--) {
            plays("28", x, back, 1);
            c.due("28 the latest", x.about(0, 0), i);
        }
        x.row(0, 5, 8);
        plays("27 again", x, keep, 1);
        x.miss(0);
        plays("28 again", x, back, 1);
        c.due("28 again", x.about(0, 0), 8);
    }
}
