/**
 * Part 1 of the document's terms, and promises 1 to 7: each sentence that names an edge has a method of its own, with
 * the sentence above it, at the last number that is allowed and at the first that is not.
 */
public final class EdgesOfMemoryTest {
    private static final int BAD = Check.BAD, NONE = Check.NONE;
    private static final int LOW = Integer.MIN_VALUE, HIGH = Integer.MAX_VALUE;
    private static final long MIN = Long.MIN_VALUE, MAX = Long.MAX_VALUE;
    private static final int[] NO_ROWS = {-1, 12, LOW, HIGH};
    private static final Check c = new Check();

    public static void main(String[] args) {
        rowsAre0To11();
        missingAtFirst();
        itemsAre0To12();
        lanesAre0To7();
        truths();
        lowestBits();
        nearestFloat();
        nearestDouble();
        atMost();
        severalPlaces();
        newObject();
        rowIsNew();
        rowRefuses();
        missTellsWhatWas();
        shareTellsWhatWas();
        shareOfMissing();
        putRefuses();
        itemOfNone();
        aboutMissing();
        aboutLeast();
        aboutRefuses();
        c.end();
    }

    /** "MEMORY are ROWS 0 to 11": in every call that names a ROW. */
    private static void rowsAre0To11() {
        for (int r : new int[] {0, 11}) {
            StoryClasses x = new StoryClasses();
            c.due("row " + r, x.row(r, 5, 2), 2);
            c.due("put " + r, x.put(r, 1, 8), 1);
            c.due("item " + r, x.item(r, 1), 8);
            c.due("about " + r, x.about(r, 0), 2);
            c.due("share 5, " + r, x.share(5, r), 1);
            c.due("miss " + r, x.miss(r), 1);
            c.due("share " + r + ", 5", x.share(r, 5), 1);
            c.due("item " + r, x.item(r, 1), 8);
        }
        for (int r : NO_ROWS) {
            StoryClasses x = new StoryClasses();
            x.row(0, 5, 2);
            c.due("row " + r, x.row(r, 5, 2), BAD);
            c.due("put " + r, x.put(r, 1, 8), BAD);
            c.due("item " + r, x.item(r, 1), 0);
            c.due("miss " + r, x.miss(r), BAD);
            c.due("share " + r + ", 0", x.share(r, 0), BAD);
            c.due("share 0, " + r, x.share(0, r), BAD);
            for (int what = 0; what < 3; what++) {
                c.due("about " + r, x.about(r, what), BAD);
            }
        }
    }

    /** "each MISSING (as at first), or of a LANE". */
    private static void missingAtFirst() {
        StoryClasses x = new StoryClasses();
        for (int r = 0; r < 12; r++) {
            c.due("missing at first: miss", x.miss(r), 0);
            c.due("missing at first: put", x.put(r, 0, 1), -11);
            c.due("of a lane then", x.row(r, 0, 0), 0);
            c.due("of a lane then: put", x.put(r, 0, 1), -12);
            c.due("of a lane then: miss", x.miss(r), 1);
        }
    }

    /** "with 0 to 12 ITEMS". */
    private static void itemsAre0To12() {
        StoryClasses x = new StoryClasses();
        c.due("0 items", x.row(0, 5, 0), 0);
        c.due("0 items: how many", x.about(0, 0), 0);
        c.due("0 items: there is none", x.put(0, 0, 1), -12);
        c.due("1 item", x.row(0, 5, 1), 1);
        c.due("1 item: the first", x.put(0, 0, 1), 1);
        c.due("1 item: no second", x.put(0, 1, 1), -12);
        c.due("12 items", x.row(1, 5, 12), 12);
        c.due("12 items: how many", x.about(1, 0), 12);
        for (int i = 0; i < 12; i++) {
            c.due("12 items: put " + i, x.put(1, i, 100 + i), 1);
        }
        c.due("12 items: no 13th", x.put(1, 12, 1), -12);
        x.row(2, 5, 12);
        for (int i = 0; i < 12; i++) {
            c.due("12 items: each its own " + i, x.item(1, i), 100 + i);
            c.due("12 items: not of another " + i, x.item(2, i), 0);
        }
        c.due("-1 items", x.row(1, 5, -1), -15);
        c.due("13 items", x.row(1, 5, 13), -17);
        c.due("refused: how many", x.about(1, 0), 12);
        c.due("refused: the last", x.item(1, 11), 111);
    }

    /** "of a LANE: 0 truths .. 7 doubles". */
    private static void lanesAre0To7() {
        StoryClasses x = new StoryClasses();
        c.due("lane 0", x.row(0, 0, 1), 1);
        c.due("lane 7", x.row(1, 7, 1), 1);
        for (int lane : new int[] {-1, 8, LOW, HIGH}) {
            c.due("no lane " + lane, x.row(0, lane, 1), BAD);
            c.due("no lane " + lane, x.about(0, 1), 0);
        }
        // What tells the lanes apart.
        long[] given = {255, 255, 65535, 65535, 4294967295L, 4294967295L, 16777217, 16777217};
        long[] held = {1, -1, -1, 65535, -1, 4294967295L, 16777216, 16777217};
        for (int lane = 0; lane < 8; lane++) {
            x.row(2, lane, 1);
            c.due("lane " + lane, x.about(2, 1), lane);
            holds(x, 2, given[lane], held[lane]);
        }
    }

    private static void holds(StoryClasses x, int r, long given, long held) {
        c.due("put " + given, x.put(r, 0, given), 1);
        c.due("lane " + x.about(r, 1) + " of " + given, x.item(r, 0), held);
    }

    /** "0 whether it is odd"; "As a number such is: 1 or 0". */
    private static void truths() {
        StoryClasses x = new StoryClasses();
        x.row(0, 0, 1);
        for (long odd : new long[] {1, -1, 3, MAX, (1L << 40) + 1}) {
            holds(x, 0, odd, 1);
        }
        for (long even : new long[] {0, 2, -2, MIN, 1L << 40, 256}) {
            holds(x, 0, 1, 1);
            holds(x, 0, even, 0);
        }
    }

    /** "1 to 5 its lowest bits"; "3 signs (0 to 65535)"; as a number "itself". */
    private static void lowestBits() {
        StoryClasses x = new StoryClasses();
        for (int lane = 1; lane < 6; lane++) {
            x.row(lane, lane, 1);
        }
        long[][] bytes = {{127, 127}, {128, -128}, {-128, -128}, {-129, 127}, {255, -1}, {256, 0}, {MAX, -1}, {MIN, 0}};
        long[][] shorts = {{32767, 32767}, {32768, -32768}, {-32768, -32768}, {-32769, 32767}, {65535, -1}, {65536, 0}};
        long[][] signs = {{0, 0}, {65535, 65535}, {65536, 0}, {-1, 65535}, {32768, 32768}, {-65536, 0}, {MAX, 65535}};
        long[][] ints = {{HIGH, HIGH}, {HIGH + 1L, LOW}, {LOW, LOW}, {LOW - 1L, HIGH}, {1L << 32, 0}, {MAX, -1}};
        long[][] longs = {{MAX, MAX}, {MIN, MIN}, {1L << 32, 1L << 32}, {-1, -1}, {0, 0}};
        long[][][] all = {bytes, shorts, signs, ints, longs};
        for (int lane = 1; lane < 6; lane++) {
            for (long[] pair : all[lane - 1]) {
                holds(x, lane, pair[0], pair[1]);
            }
        }
    }

    /** "6, 7 the nearest float, double": of two that are as near, the even one. */
    private static void nearestFloat() {
        StoryClasses x = new StoryClasses();
        x.row(0, 6, 1);
        holds(x, 0, 16777215, 16777215);
        holds(x, 0, 16777216, 16777216);
        holds(x, 0, 16777217, 16777216);
        holds(x, 0, 16777218, 16777218);
        holds(x, 0, 16777219, 16777220);
        holds(x, 0, -16777217, -16777216);
        holds(x, 0, -16777219, -16777220);
        // The nearest double lies half way between two floats, the number itself does not.
        holds(x, 0, (1L << 60) + (1L << 36) + 1, (1L << 60) + (1L << 37));
        holds(x, 0, (1L << 60) + (1L << 36), 1L << 60);
        holds(x, 0, -(1L << 60) - (1L << 36) - 1, -(1L << 60) - (1L << 37));
    }

    /** "6, 7 the nearest float, double". */
    private static void nearestDouble() {
        StoryClasses x = new StoryClasses();
        x.row(0, 7, 1);
        holds(x, 0, 16777217, 16777217);
        holds(x, 0, 9007199254740991L, 9007199254740991L);
        holds(x, 0, 9007199254740992L, 9007199254740992L);
        holds(x, 0, 9007199254740993L, 9007199254740992L);
        holds(x, 0, 9007199254740994L, 9007199254740994L);
        holds(x, 0, 9007199254740995L, 9007199254740996L);
        holds(x, 0, -9007199254740993L, -9007199254740992L);
        holds(x, 0, -9007199254740995L, -9007199254740996L);
    }

    /** "6, 7 cut off toward 0 (2^63 - 1 at most)". */
    private static void atMost() {
        StoryClasses x = new StoryClasses();
        x.row(0, 6, 1);
        x.row(1, 7, 1);
        for (int r = 0; r < 2; r++) {
            holds(x, r, MAX, MAX);
            holds(x, r, MIN, MIN);
            holds(x, r, MIN + 1, MIN);
        }
        // The first that is nearest to 2^63, and the last that is not.
        holds(x, 0, MAX - (1L << 38) + 1, MAX);
        holds(x, 0, MAX - (1L << 38), MAX - (1L << 39) + 1);
        holds(x, 1, MAX - (1L << 9) + 1, MAX);
        holds(x, 1, MAX - (1L << 9), MAX - (1L << 10) + 1);
    }

    /** "One ROW can be in several places (it is the same one then)". */
    private static void severalPlaces() {
        StoryClasses x = new StoryClasses();
        x.row(0, 5, 3);
        for (int r = 1; r < 12; r++) {
            c.due("share " + r, x.share(r, r - 1), 1);
        }
        for (int r = 0; r < 12; r++) {
            c.due("put by " + r, x.put(r, 2, 50 + r), 1);
            for (int s = 0; s < 12; s += 11) {
                c.due("seen by " + s, x.item(s, 2), 50 + r);
            }
        }
        // As places leave it the others go on to have it, to the last.
        for (int r = 0; r < 11; r++) {
            c.due("leaves", r % 2 == 0 ? x.miss(r) : x.row(r, 5, 3), r % 2 == 0 ? 1 : 3);
            c.due("the last has it", x.item(11, 2), 61);
            c.due("the one that left has it not", x.item(r, 2), 0);
        }
        c.due("its own at last", x.about(11, 2), 11);
    }

    /** Promise 1: "All ROWS are MISSING; no THINGS, no ROUTINES, nothing KEPT, no RUN." */
    private static void newObject() {
        StoryClasses used = new StoryClasses();
        used.row(0, 4, 3);
        used.thing(0);
        c.returns("another's run", used, 1, Check.op(27), Check.op(20));
        StoryClasses x = new StoryClasses();
        for (int r = 0; r < 12; r++) {
            c.due("1 MISSING", x.about(r, 0), NONE);
        }
        c.due("1 no THINGS", x.count(0, 0), 0);
        c.due("1 no THING 0", x.of(0, 4), 0);
        c.due("1 no ROUTINES", x.count(1, 0), 0);
        c.due("1 no ROUTINE 0", x.count(4, 0), BAD);
        c.due("1 nothing KEPT", x.count(2, 0), 0);
        c.due("1 nothing KEPT", x.forget(), 0);
        c.due("1 no OUTPUT", x.count(3, 0), 0);
        c.tolds("1 no RUN", x, 0, NONE, NONE, 0, 0, 0, 0, 0);
        c.due("1 no RUN", x.result(), 0);
        c.due("1 no RUN", x.number(), 0);
    }

    /** Promise 2: "ROW r becomes a new one: n." */
    private static void rowIsNew() {
        StoryClasses x = new StoryClasses();
        for (int lane = 0; lane < 8; lane++) {
            x.row(3, lane, 12);
            for (int i = 0; i < 12; i++) {
                x.put(3, i, 1);
            }
            x.row(3, lane, 12);
            for (int i = 0; i < 12; i += 11) {
                c.due("2 its items are 0, lane " + lane, x.item(3, i), 0);
            }
        }
        x.share(4, 3);
        x.row(3, 7, 12);
        c.due("2 no longer the other's", x.about(4, 2), 4);
        // A small one first and a large one then: what lay behind the small one's end is not seen.
        x.put(3, 11, 5);
        c.due("2 small", x.row(3, 7, 2), 2);
        c.due("2 small: no item 2", x.item(3, 2), 0);
        c.due("2 large", x.row(3, 7, 12), 12);
        c.due("2 large: item 11", x.item(3, 11), 0);
    }

    /** Promise 2: "BAD (r, LANE); -10 less the FAULT: SIZE, ARGUMENT (as of 15)." */
    private static void rowRefuses() {
        StoryClasses x = new StoryClasses();
        c.due("2 SIZE", x.row(0, 4, -1), -15);
        c.due("2 SIZE", x.row(0, 4, LOW), -15);
        c.due("2 least", x.row(0, 4, 0), 0);
        c.due("2 most", x.row(0, 4, 12), 12);
        c.due("2 ARGUMENT", x.row(0, 4, 13), -17);
        c.due("2 ARGUMENT", x.row(0, 4, HIGH), -17);
        c.due("2 r before SIZE", x.row(12, 4, -1), BAD);
        c.due("2 LANE before SIZE", x.row(0, 8, -1), BAD);
        c.due("2 LANE before ARGUMENT", x.row(0, -1, 13), BAD);
        c.due("2 r before ARGUMENT", x.row(-1, 4, 13), BAD);
        c.due("2 refused", x.about(0, 0), 12);
        c.due("2 refused of a missing one", x.row(1, 4, 13), -17);
        c.due("2 refused of a missing one", x.about(1, 0), NONE);
    }

    /** Promise 3: "ROW r is MISSING then: 1; 0: it was. BAD." */
    private static void missTellsWhatWas() {
        StoryClasses x = new StoryClasses();
        c.due("3 it was", x.miss(11), 0);
        x.row(11, 4, 0);
        c.due("3 a row without items is there", x.miss(11), 1);
        c.due("3 MISSING then", x.about(11, 1), NONE);
        c.due("3 it was", x.miss(11), 0);
        x.row(0, 4, 1);
        x.share(11, 0);
        c.due("3 of two places", x.miss(0), 1);
        c.due("3 the other stays", x.about(11, 0), 1);
        c.due("3 the other", x.miss(11), 1);
        c.due("3 low", x.miss(-1), BAD);
        c.due("3 high", x.miss(12), BAD);
    }

    /** Promise 4: "ROW r becomes ROW s (the same one): 1; 0: it was. BAD." */
    private static void shareTellsWhatWas() {
        StoryClasses x = new StoryClasses();
        x.row(0, 4, 1);
        x.row(1, 4, 1);
        c.due("4 itself", x.share(0, 0), 0);
        c.due("4 alike is not the same", x.share(0, 1), 1);
        c.due("4 it was", x.share(0, 1), 0);
        c.due("4 it was, the other way", x.share(1, 0), 0);
        c.due("4 a third", x.share(11, 0), 1);
        c.due("4 a third: it was", x.share(11, 1), 0);
        x.row(0, 4, 1);
        c.due("4 r is what changes", x.about(11, 2), 1);
        c.due("4 no longer", x.share(11, 0), 1);
        c.due("4 s stays", x.about(0, 2), 0);
        c.due("4 s stays", x.about(1, 2), 1);
        c.due("4 r low", x.share(-1, 0), BAD);
        c.due("4 r high", x.share(12, 0), BAD);
        c.due("4 s low", x.share(0, -1), BAD);
        c.due("4 s high", x.share(0, 12), BAD);
    }

    /** Promise 4, where one or both are MISSING. */
    private static void shareOfMissing() {
        StoryClasses x = new StoryClasses();
        c.due("4 both MISSING: it was", x.share(0, 1), 0);
        c.due("4 both MISSING", x.about(0, 0), NONE);
        c.due("4 MISSING, itself", x.share(3, 3), 0);
        x.row(1, 4, 2);
        c.due("4 r MISSING", x.share(0, 1), 1);
        c.due("4 r MISSING", x.about(0, 0), 2);
        c.due("4 s MISSING", x.share(0, 2), 1);
        c.due("4 s MISSING", x.about(0, 0), NONE);
        c.due("4 s MISSING: the others stay", x.about(1, 0), 2);
        c.due("4 s MISSING: it was", x.share(0, 2), 0);
    }

    /** Promise 5: "ITEM i of ROW r becomes v: 1. BAD; -10 less the FAULT: NOTHING, INDEX." */
    private static void putRefuses() {
        StoryClasses x = new StoryClasses();
        c.due("5 NOTHING", x.put(0, 0, 1), -11);
        c.due("5 NOTHING before INDEX", x.put(0, -1, 1), -11);
        c.due("5 NOTHING before INDEX", x.put(0, 12, 1), -11);
        x.row(0, 5, 3);
        c.due("5 first", x.put(0, 0, 10), 1);
        c.due("5 last", x.put(0, 2, 12), 1);
        for (int i : new int[] {-1, 3, 11, 12, LOW, HIGH}) {
            c.due("5 INDEX " + i, x.put(0, i, 77), -12);
        }
        c.due("5 refused", x.item(0, 0), 10);
        c.due("5 refused", x.item(0, 1), 0);
        c.due("5 refused", x.item(0, 2), 12);
        c.due("5 BAD before NOTHING", x.put(12, 0, 1), BAD);
        c.due("5 BAD before INDEX", x.put(-1, -1, 1), BAD);
        c.due("5 BAD", x.put(LOW, 0, 1), BAD);
        c.due("5 BAD", x.put(HIGH, 0, 1), BAD);
    }

    /** Promise 6: "0: there is none such." */
    private static void itemOfNone() {
        StoryClasses x = new StoryClasses();
        for (int r = 0; r < 12; r++) {
            x.row(r, 5, 3);
            for (int i = 0; i < 3; i++) {
                x.put(r, i, 1000 + i);
            }
        }
        c.due("6 first", x.item(0, 0), 1000);
        c.due("6 last", x.item(11, 2), 1002);
        for (int i : new int[] {-1, 3, LOW, HIGH}) {
            c.due("6 no ITEM " + i, x.item(5, i), 0);
        }
        for (int r : NO_ROWS) {
            c.due("6 no ROW " + r, x.item(r, 0), 0);
        }
        x.miss(4);
        c.due("6 MISSING", x.item(4, 0), 0);
        x.row(4, 5, 0);
        c.due("6 without items", x.item(4, 0), 0);
    }

    /** Promise 7: "0 how many ITEMS ROW r has, 1 its LANE (both NONE: it is MISSING)". */
    private static void aboutMissing() {
        StoryClasses x = new StoryClasses();
        x.row(0, 0, 0);
        c.due("7 0 is not MISSING", x.about(0, 0), 0);
        c.due("7 LANE 0 is not MISSING", x.about(0, 1), 0);
        x.row(11, 7, 12);
        c.due("7 most", x.about(11, 0), 12);
        c.due("7 most", x.about(11, 1), 7);
        x.miss(11);
        c.due("7 MISSING", x.about(11, 0), NONE);
        c.due("7 MISSING", x.about(11, 1), NONE);
    }

    /** Promise 7: "2 the least ROW that is the same one (or MISSING, too)". */
    private static void aboutLeast() {
        StoryClasses x = new StoryClasses();
        c.due("7 the least MISSING", x.about(11, 2), 0);
        c.due("7 the least MISSING", x.about(0, 2), 0);
        for (int r = 0; r < 11; r++) {
            x.row(r, 4, 1);
            c.due("7 the only one", x.about(r, 2), r);
            c.due("7 the least MISSING", x.about(11, 2), r + 1);
        }
        x.row(11, 4, 1);
        c.due("7 none is MISSING", x.about(11, 2), 11);
        x.share(11, 6);
        c.due("7 the same one", x.about(11, 2), 6);
        c.due("7 the same one, itself", x.about(6, 2), 6);
        x.share(0, 6);
        c.due("7 the least of three", x.about(11, 2), 0);
        c.due("7 the least of three", x.about(6, 2), 0);
        x.miss(3);
        x.miss(9);
        c.due("7 MISSING, too", x.about(9, 2), 3);
    }

    /** Promise 7: "BAD." */
    private static void aboutRefuses() {
        StoryClasses x = new StoryClasses();
        x.row(0, 4, 1);
        for (int r = 0; r < 2; r++) {
            for (int what : new int[] {-1, 3, LOW, HIGH}) {
                c.due("7 what " + what, x.about(r, what), BAD);
            }
        }
        for (int r : NO_ROWS) {
            c.due("7 r " + r, x.about(r, 2), BAD);
        }
    }
}
