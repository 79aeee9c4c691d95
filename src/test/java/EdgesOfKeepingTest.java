/**
 * The ops 27 and 28, and promise 20: each sentence that names an edge has a method of its own, with the sentence
 * above it.
 */
public final class EdgesOfKeepingTest {
    private static final int NONE = Check.NONE, ARGUMENT = Check.ARGUMENT, PILE = Check.PILE;
    private static final int KEEP = 0, BACK = 1, TAKE = 2, SET_MARK = 3, SET_CRATE_MARK = 4, SET_LANTERN_MARK = 5;
    private static final int LAY = 6;
    private static final Check c = new Check();

    public static void main(String[] args) {
        threeAreKept();
        threeOverRuns();
        sevenInARun();
        sixInEachRun();
        refusedKeepings();
        keepingsOnAFullPile();
        howManyAreKept();
        noneIsKept();
        theLatestGoes();
        rowsAsOne();
        rowsOfAllPlaces();
        rowsThatCameSince();
        rowsAfterAllWentMissing();
        rowsAfterAllCame();
        keptIsApart();
        allThings();
        thingsThatCameSince();
        noThingsThen();
        notKept();
        forget();
        forgetInTheMidst();
        c.end();
    }

    private static int[] op(int... numbers) {
        return Check.op(numbers);
    }

    /** A story with the routines KEEP, BACK, and those that change THING x by y. */
    private static StoryClasses keeping() {
        StoryClasses x = new StoryClasses();
        Check.routine(x, 1, op(27), op(20));
        Check.routine(x, 1, op(28), op(20));
        for (int message : new int[] {1, 6, 7, 8}) {
            Check.routine(x, 2, op(1, 0), op(1, 1), op(23, message), op(20));
        }
        Check.routine(x, 2, op(1, 0), op(0, 0), op(1, 1), op(24), op(0, 1), op(20));
        return x;
    }

    /** 27: "ARGUMENT (3 are KEPT, ..": in one run. */
    private static void threeAreKept() {
        StoryClasses x = keeping();
        c.returns("27 the 3rd", x, 3, op(27), op(27), op(27), op(20));
        c.due("27 the 3rd", x.count(2, 0), 3);
        StoryClasses y = keeping();
        c.faults("27 the 4th", y, ARGUMENT, 3, op(27), op(27), op(27), op(27), op(20));
        c.due("27 the 4th", y.count(2, 0), 3);
        // One goes, one more can be kept.
        StoryClasses z = keeping();
        c.returns("27 after 28", z, 3, op(27), op(27), op(27), op(28), op(27), op(20));
    }

    /** 27: "3 are KEPT": also by runs before this one. */
    private static void threeOverRuns() {
        StoryClasses x = keeping();
        x.row(0, 5, 1);
        for (int i = 1; i <= 3; i++) {
            x.put(0, 0, i);
            c.gives("27 kept", x, KEEP, 0, 0, i);
        }
        x.put(0, 0, 4);
        c.fails("27 the 4th", x, KEEP, 0, 0, ARGUMENT, 0);
        c.due("27 nothing changes", x.count(2, 0), 3);
        c.gives("28", x, BACK, 0, 0, 1);
        c.due("28 the 3rd, not the 4th", x.item(0, 0), 3);
        c.gives("27 the 3rd again", x, KEEP, 0, 0, 3);
        c.fails("27 the 4th again", x, KEEP, 0, 0, ARGUMENT, 0);
    }

    /** Keeps and brings back so many times, and RETURNS what the last 27 laid. */
    private static int[][] times(int n) {
        int[][] ops = new int[4 * n][];
        for (int i = 0; i < n; i++) {
            ops[4 * i] = op(27);
            ops[4 * i + 1] = op(2, 0);
            ops[4 * i + 2] = op(28);
            ops[4 * i + 3] = op(26);
        }
        ops[4 * n - 2] = op(1, 0);
        ops[4 * n - 1] = op(20);
        return ops;
    }

    /** 27: ".. or it would be the 7th KEEPING in this RUN)". */
    private static void sevenInARun() {
        StoryClasses x = new StoryClasses();
        c.returns("27 the 6th", x, 1, times(6));
        c.due("27 the 6th", x.count(2, 0), 1);
        StoryClasses y = new StoryClasses();
        c.faults("27 the 7th", y, ARGUMENT, 24, times(7));
        c.due("27 the 7th", y.count(2, 0), 0);
        // Over all that are open in the run.
        StoryClasses z = new StoryClasses();
        int callee = Check.routine(z, 1, op(27), op(26), op(28), op(20));
        int[][] calls = new int[15][];
        for (int i = 0; i < 7; i++) {
            calls[2 * i] = op(19, callee, 0);
            calls[2 * i + 1] = op(26);
        }
        calls[14] = op(19, callee, 0);
        int caller = Check.routine(z, 1, calls);
        c.due("27 the 7th in calls", z.run(caller, 0, 0), 1);
        c.tolds("27 the 7th in calls", z, ARGUMENT, callee, 0, 6 * 6 + 2, 1, 0, 0, 2);
    }

    /** ".. in this RUN": the next begins anew. */
    private static void sixInEachRun() {
        StoryClasses x = new StoryClasses();
        int r = Check.routine(x, 1, times(6));
        for (int i = 1; i <= 3; i++) {
            c.gives("27 six in each", x, r, 0, 0, i);
            c.due("27 six in each", x.count(2, 0), i);
        }
        c.fails("27 3 are kept", x, r, 0, 0, ARGUMENT, 0);
    }

    /** What is refused is no KEEPING: it does not count toward the six. */
    private static void refusedKeepings() {
        StoryClasses x = new StoryClasses();
        // Three, a refused one; three go; three more are the 4th, 5th, 6th; one goes; the next would be the 7th.
        int r = Check.routine(x, 1, op(27), op(27), op(27), op(27), op(28), op(28), op(28), op(26), op(26), op(26),
            op(27), op(27), op(27), op(28), op(27), op(20));
        x.guard(r, 3, 4, ARGUMENT, 4);
        c.fails("27 refused", x, r, 0, 0, ARGUMENT, 14);
        c.due("27 refused", x.count(2, 0), 2);
    }

    /** "(PILE: there are 8; what it did stays)": such a one is a KEEPING, and counts. */
    private static void keepingsOnAFullPile() {
        StoryClasses x = new StoryClasses();
        int[][] ops = Check.onPile(8, op(27), op(28), op(26), op(26), op(26), op(1, 0), op(0, 1), op(4), op(2, 0),
            op(1, 0), op(11, 20), op(10, 0), op(27), op(20));
        int r = Check.routine(x, 1, ops);
        x.guard(r, 8, 9, PILE, 9);
        c.fails("27 on 8, six times", x, r, 6, 0, ARGUMENT, 20);
        c.due("27 on 8, six times", x.told(4), 7);
        c.due("27 on 8, six times", x.count(2, 0), 0);
        c.gives("27 on 8, five times", x, r, 5, 0, 1);
        c.due("27 on 8, five times", x.told(4), 5);
    }

    /** 27: "lays how many are KEPT". */
    private static void howManyAreKept() {
        StoryClasses x = new StoryClasses();
        c.returns("27", x, 123, op(27), op(0, 10), op(5), op(27), op(3), op(0, 10), op(5), op(27), op(3), op(20));
        c.due("19 KEPT", x.count(2, 0), 3);
    }

    /** 28: "lays 1; 0, if none is KEPT": then nothing changes. */
    private static void noneIsKept() {
        StoryClasses x = keeping();
        x.thing(0);
        x.row(0, 5, 2);
        c.gives("TAKE", x, TAKE, 0, 5, 5);
        c.gives("28 none", x, BACK, 0, 0, 0);
        c.due("28 nothing changes", x.about(0, 0), 2);
        c.due("28 nothing changes", x.of(0, 1), 5);
        c.gives("27", x, KEEP, 0, 0, 1);
        c.gives("28 one", x, BACK, 0, 0, 1);
        x.put(0, 1, 7);
        c.gives("28 none", x, BACK, 0, 0, 0);
        c.due("28 nothing changes", x.item(0, 1), 7);
    }

    /** 28: "as in the latest one KEPT, which goes". */
    private static void theLatestGoes() {
        StoryClasses x = keeping();
        x.row(0, 5, 1);
        for (int i = 1; i <= 3; i++) {
            x.put(0, 0, 10 * i);
            c.gives("27", x, KEEP, 0, 0, i);
        }
        x.put(0, 0, 99);
        for (int i = 3; i >= 1; i--) {
            c.gives("28", x, BACK, 0, 0, 1);
            c.due("28 the latest", x.item(0, 0), 10 * i);
            c.due("28 which goes", x.count(2, 0), i - 1);
        }
    }

    /** 27: "KEEPS all ROWS (one in several places as one)". */
    private static void rowsAsOne() {
        StoryClasses x = keeping();
        x.row(2, 5, 2);
        x.share(0, 2);
        x.share(11, 2);
        x.row(5, 5, 2);
        x.put(0, 0, 6);
        x.put(5, 0, 6);
        c.gives("27", x, KEEP, 0, 0, 1);
        for (int r = 0; r < 12; r++) {
            x.row(r, 1, 1);
        }
        c.gives("28", x, BACK, 0, 0, 1);
        c.due("28 as one", x.about(2, 2), 0);
        c.due("28 as one", x.about(11, 2), 0);
        c.due("28 alike, but apart", x.about(5, 2), 5);
        c.due("28 MISSING again", x.about(1, 0), NONE);
        c.due("28 MISSING again", x.about(10, 2), 1);
        x.put(11, 0, 7);
        c.due("28 as one", x.item(0, 0), 7);
        c.due("28 as one", x.item(2, 0), 7);
        c.due("28 apart", x.item(5, 0), 6);
    }

    /** "all ROWS": the twelve, with all their ITEMS, of each LANE. */
    private static void rowsOfAllPlaces() {
        StoryClasses x = keeping();
        for (int r = 0; r < 12; r++) {
            x.row(r, r % 8, 12);
            x.put(r, 0, 101 + r);
            x.put(r, 11, 200 + r);
        }
        long[] first = new long[12];
        long[] last = new long[12];
        for (int r = 0; r < 12; r++) {
            first[r] = x.item(r, 0);
            last[r] = x.item(r, 11);
        }
        c.gives("27", x, KEEP, 0, 0, 1);
        for (int r = 0; r < 12; r++) {
            x.put(r, 0, 0);
            x.put(r, 11, 1);
            x.row(r, 5, r);
        }
        c.gives("28", x, BACK, 0, 0, 1);
        for (int r = 0; r < 12; r++) {
            c.due("28 LANE", x.about(r, 1), r % 8);
            c.due("28 ITEMS", x.about(r, 0), 12);
            c.due("28 first", x.item(r, 0), first[r]);
            c.due("28 last", x.item(r, 11), last[r]);
            c.due("28 apart", x.about(r, 2), r);
        }
    }

    /** "all that becomes again": a ROW that came since is gone, and a new one after that is apart from all. */
    private static void rowsThatCameSince() {
        StoryClasses x = keeping();
        x.row(0, 5, 1);
        x.put(0, 0, 5);
        c.gives("27", x, KEEP, 0, 0, 1);
        for (int r = 1; r < 12; r++) {
            x.share(r, 0);
        }
        x.miss(0);
        c.gives("28", x, BACK, 0, 0, 1);
        c.due("28 the first", x.item(0, 0), 5);
        for (int r = 1; r < 12; r++) {
            c.due("28 the others are MISSING", x.about(r, 0), NONE);
        }
        x.put(0, 0, 10);
        newRowsAreApart(x, 1);
    }

    /** ROWS from the first on are made new, and all twelve are apart then. */
    private static void newRowsAreApart(StoryClasses x, int first) {
        for (int r = first; r < 12; r++) {
            x.row(r, 5, 1);
            x.put(r, 0, 10 + r);
        }
        for (int r = 0; r < 12; r++) {
            c.due("28 apart", x.item(r, 0), 10 + r);
            c.due("28 apart", x.about(r, 2), r);
        }
    }

    /** "all that becomes again": ROWS that were there and are MISSING since. */
    private static void rowsAfterAllWentMissing() {
        StoryClasses x = keeping();
        for (int r = 0; r < 6; r++) {
            x.row(r, 5, 1);
            x.put(r, 0, 10 + r);
        }
        c.gives("27", x, KEEP, 0, 0, 1);
        for (int r = 0; r < 12; r++) {
            x.miss(r);
        }
        c.gives("28", x, BACK, 0, 0, 1);
        newRowsAreApart(x, 6);
    }

    /** "all that becomes again": ROWS that were MISSING and have all come since. */
    private static void rowsAfterAllCame() {
        StoryClasses x = keeping();
        c.gives("27", x, KEEP, 0, 0, 1);
        newRowsAreApart(x, 0);
        c.gives("28", x, BACK, 0, 0, 1);
        for (int r = 0; r < 12; r++) {
            c.due("28 MISSING again", x.about(r, 0), NONE);
        }
        newRowsAreApart(x, 0);
    }

    /** What is KEPT is not what is there: a change after 28 does not come back by an older one KEPT. */
    private static void keptIsApart() {
        StoryClasses x = keeping();
        x.thing(0);
        x.row(0, 5, 1);
        x.put(0, 0, 5);
        c.gives("27", x, KEEP, 0, 0, 1);
        c.gives("27", x, KEEP, 0, 0, 2);
        c.gives("28", x, BACK, 0, 0, 1);
        x.put(0, 0, 6);
        c.gives("TAKE", x, TAKE, 0, 3, 3);
        c.gives("LAY", x, LAY, 0, 0, 1);
        c.gives("28", x, BACK, 0, 0, 1);
        c.due("28 the ROW", x.item(0, 0), 5);
        c.due("28 the COUNT", x.of(0, 1), 0);
        c.due("28 the SHELF", x.of(0, 5), NONE);
    }

    /** "COUNT, MARKS and SHELVES of all THINGS": the twelve. */
    private static void allThings() {
        StoryClasses x = keeping();
        int[] kinds = {0, 1, 2, 3, 4, 5, 5, 4, 3, 2, 1, 0};
        for (int kind : kinds) {
            x.thing(kind);
        }
        change(x, 3, 0);
        c.gives("27", x, KEEP, 0, 0, 1);
        int[][] before = asked(x);
        change(x, 4, -1);
        c.gives("28", x, BACK, 0, 0, 1);
        int[][] after = asked(x);
        for (int t = 0; t < 12; t++) {
            for (int what = 0; what < 6; what++) {
                c.due("28 of(" + t + ", " + what + ")", after[t][what], before[t][what]);
            }
            c.due("28 COUNT", after[t][1], 3);
            c.due("28 SHELF", after[t][5], t);
        }
    }

    /** COUNT more by n, the MARKS n + 10 and n + 20; on its own SHELF it lies itself (0) or none (-1). */
    private static void change(StoryClasses x, int n, int lies) {
        for (int t = 0; t < 12; t++) {
            x.run(TAKE, t, n);
            x.run(SET_MARK, t, n + 10);
            x.run(SET_CRATE_MARK, t, n + 20);
            x.run(SET_LANTERN_MARK, t, n + 20);
            c.gives("LAY", x, LAY, t, lies == 0 ? t : -1, 1);
        }
    }

    private static int[][] asked(StoryClasses x) {
        int[][] all = new int[12][6];
        for (int t = 0; t < 12; t++) {
            for (int what = 0; what < 6; what++) {
                all[t][what] = x.of(t, what);
            }
        }
        return all;
    }

    /** 28: "(THINGS that came since stay as they are)". */
    private static void thingsThatCameSince() {
        StoryClasses x = keeping();
        x.thing(0);
        c.gives("TAKE", x, TAKE, 0, 1, 1);
        c.gives("27 one THING", x, KEEP, 0, 0, 1);
        x.thing(2);
        c.gives("TAKE", x, TAKE, 1, 2, 2);
        c.gives("27 two THINGS", x, KEEP, 0, 0, 2);
        x.thing(5);
        for (int t = 0; t < 3; t++) {
            c.due("TAKE", x.run(TAKE, t, 3), 0);
            c.due("MARK", x.run(SET_MARK, t, 7), 0);
            c.gives("LAY", x, LAY, t, t, 1);
        }
        c.due("OWN MARK", x.run(SET_LANTERN_MARK, 2, 8), 0);
        c.gives("LAY what came since", x, LAY, 0, 2, 1);
        c.gives("28 two THINGS", x, BACK, 0, 0, 1);
        int[][] two = {{0, 1, 0, 0, 4, NONE}, {2, 2, 0, 1, 3, NONE}, {5, 3, 7, 8, 2, 2}};
        same("28 the third stays", x, two);
        c.gives("TAKE", x, TAKE, 1, 5, 7);
        c.gives("LAY", x, LAY, 1, 1, 1);
        c.gives("28 one THING", x, BACK, 0, 0, 1);
        int[][] one = {{0, 1, 0, 0, 4, NONE}, {2, 7, 0, 2, 3, 1}, {5, 3, 7, 8, 2, 2}};
        same("28 the second stays, too", x, one);
        c.due("28 they are there", x.count(0, 0), 3);
    }

    private static void same(String what, StoryClasses x, int[][] want) {
        for (int t = 0; t < want.length; t++) {
            for (int k = 0; k < want[t].length; k++) {
                c.due(what + ": of(" + t + ", " + k + ")", x.of(t, k), want[t][k]);
            }
        }
    }

    /** A KEEPING with no THINGS, after one with all twelve went: none becomes anything. */
    private static void noThingsThen() {
        StoryClasses x = keeping();
        c.gives("27 no THINGS", x, KEEP, 0, 0, 1);
        for (int t = 0; t < 12; t++) {
            x.thing(0);
            c.gives("TAKE", x, TAKE, t, t, t);
        }
        c.gives("28 no THINGS", x, BACK, 0, 0, 1);
        for (int t = 0; t < 12; t++) {
            c.due("28 they stay", x.of(t, 1), t);
        }
    }

    /** What is not told there is not KEPT: THE OUTPUT, LOCALS, the PILE, ROUTINES. */
    private static void notKept() {
        StoryClasses x = new StoryClasses();
        c.returns("28", x, 9, op(0, 4), op(2, 0), op(27), op(26), op(0, 9), op(2, 0), op(0, 5), op(26), op(28), op(26),
            op(1, 0), op(20));
        c.due("THE OUTPUT stays", x.count(3, 0), 3);
        c.due("THE OUTPUT stays", x.output(1), 5);
        int keep = Check.routine(x, 1, op(27), op(20));
        c.gives("27", x, keep, 0, 0, 1);
        int back = Check.routine(x, 1, op(28), op(20));
        x.last(keep, 3);
        c.gives("28", x, back, 0, 0, 1);
        c.due("ROUTINES stay", x.count(1, 0), 3);
        c.due("LAST stays", x.last(keep, NONE), 3);
    }

    /** Promise 20: "All that is KEPT goes: how many." */
    private static void forget() {
        StoryClasses x = keeping();
        for (int n = 0; n <= 3; n++) {
            x.row(0, 5, n);
            for (int i = 1; i <= n; i++) {
                c.gives("27", x, KEEP, 0, 0, i);
            }
            c.due("20 how many", x.forget(), n);
            c.due("20 all go", x.count(2, 0), 0);
            c.due("20 none then", x.forget(), 0);
            c.gives("28 none", x, BACK, 0, 0, 0);
            c.due("20 what is there stays", x.about(0, 0), n);
        }
        c.gives("27 the first again", x, KEEP, 0, 0, 1);
    }

    /** Promise 20 leaves THE OUTPUT and the latest RUN as they are. */
    private static void forgetInTheMidst() {
        StoryClasses x = new StoryClasses();
        int r = Check.routine(x, 1, op(0, 4), op(26), op(27), op(0, 5), op(21));
        c.fails("27", x, r, 0, 0, Check.OWN, 4);
        c.due("20", x.forget(), 1);
        c.tolds("20 the RUN stays", x, Check.OWN, r, 4, 5, 1, 0, 0, 1);
        c.due("20 the RUN stays", x.number(), 5);
        c.due("20 THE OUTPUT stays", x.output(0), 4);
    }
}
