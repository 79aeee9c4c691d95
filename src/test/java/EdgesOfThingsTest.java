/**
 * Part 2 of the document's terms, promises 8 and 9, and the ops 23 to 25: each sentence that names an edge has a
 * method of its own, with the sentence above it.
 */
public final class EdgesOfThingsTest {
    private static final int BAD = Check.BAD, FULL = Check.FULL, NONE = Check.NONE;
    private static final int NOTHING = Check.NOTHING, INDEX = Check.INDEX, CAST = Check.CAST, STORE = Check.STORE;
    private static final int OWN = Check.OWN, DUMB = Check.DUMB;
    private static final int LOW = Integer.MIN_VALUE, HIGH = Integer.MAX_VALUE;
    private static final int BOX = 0, CRATE = 1, CAGE = 2, CART = 3, LAMP = 4, LANTERN = 5;
    private static final int WEIGH = 0, TAKE = 1, GLOW = 2, OPEN = 3, MARK = 4, CRATE_MARK = 5;
    private static final int SET_MARK = 6, SET_CRATE_MARK = 7, SET_LANTERN_MARK = 8;
    private static final int LAY = 9, LOOK = 10, CLEAR = 11;
    private static final int COUNT = 1, OWN_MARK = 3, PLACES = 4, SHELF = 5;
    private static final Check c = new Check();

    public static void main(String[] args) {
        twelveThings();
        allIs0AtFirst();
        countWraps();
        marksAreInts();
        ownMarkWraps();
        numbersAsInts();
        kindsAre0To5();
        ownMarkOfOthers();
        placesOfShelves();
        shelvesHavePlacesFor();
        weigh();
        weighWraps();
        takeOfABox();
        takeOfACrate();
        takeOfACrateWraps();
        takeOfACage();
        takeOfALamp();
        glow();
        glowOfOthers();
        open();
        mark();
        crateMark();
        setMarks();
        messagesToNone();
        messagesAreCounted();
        layRefuses();
        layStores();
        layChangesNothing();
        look();
        ofNone();
        c.end();
    }

    /**
     * A story with one thing of each kind, its number being its kind, and twelve routines: for MESSAGE m that with
     * its number, of LOCAL 0 (and LOCAL 1); LAY x at place y of SHELF x; LOOK at place y of SHELF x; CLEAR that.
     */
    private static StoryClasses all() {
        StoryClasses x = new StoryClasses();
        for (int kind = 0; kind < 6; kind++) {
            x.thing(kind);
        }
        addRoutines(x);
        return x;
    }

    private static void addRoutines(StoryClasses x) {
        int[] s = Check.op(1, 0);
        int[] i = Check.op(1, 1);
        int[] end = Check.op(20);
        for (int m = 0; m < 9; m++) {
            if (m == TAKE || m >= SET_MARK) {
                Check.routine(x, 2, s, i, Check.op(23, m), end);
            } else {
                Check.routine(x, 2, s, Check.op(23, m), end);
            }
        }
        Check.routine(x, 2, s, Check.op(0, 0), i, Check.op(24), Check.op(0, 77), end);
        Check.routine(x, 2, s, i, Check.op(25), end);
        Check.routine(x, 2, s, i, Check.op(0, -1), Check.op(24), Check.op(0, 77), end);
    }

    private static void answers(StoryClasses x, int message, int t, long n, long want) {
        String what = "MESSAGE " + message + " to " + t + " with " + n;
        c.due(what, x.run(message, t, n), 0);
        c.due(what, x.result(), want);
    }

    private static void refuses(StoryClasses x, int message, long t, long n, int code) {
        String what = "MESSAGE " + message + " to " + t + " with " + n;
        c.due(what, x.run(message, t, n), 1);
        c.due(what + ": code", x.told(0), code);
        c.due(what + ": place", x.told(2), message == TAKE || message >= SET_MARK ? 2 : 1);
        c.due(what + ": number", x.number(), code == OWN ? 50 : 0);
    }

    private static boolean isCrate(int kind) {
        return kind == CRATE || kind == CAGE || kind == CART;
    }

    /** "THINGS (12)"; promise 8: "A THING of a KIND: its number. BAD; FULL." */
    private static void twelveThings() {
        StoryClasses x = new StoryClasses();
        for (int i = 0; i < 12; i++) {
            c.due("8 before", x.of(i, PLACES), 0);
            c.due("8 thing", x.thing(i % 6), i);
            c.due("8 how many", x.count(0, 0), i + 1);
        }
        c.due("8 the 13th", x.thing(0), FULL);
        c.due("8 the 13th", x.thing(5), FULL);
        c.due("8 BAD before FULL", x.thing(-1), BAD);
        c.due("8 BAD before FULL", x.thing(6), BAD);
        c.due("8 how many", x.count(0, 0), 12);
        c.due("8 no THING 12", x.of(12, PLACES), 0);
        for (int i = 0; i < 12; i++) {
            c.due("8 they stay", x.of(i, 0), i % 6);
        }
        // All twelve have what is theirs.
        addRoutines(x);
        for (int i = 0; i < 12; i++) {
            answers(x, TAKE, i, i % 6, i % 6);
        }
        for (int i = 0; i < 12; i++) {
            c.due("8 its own COUNT", x.of(i, COUNT), i % 6);
        }
    }

    /** "a COUNT, a MARK (ints, 0 at first, wrapping) and a SHELF with places for THINGS, empty at first". */
    private static void allIs0AtFirst() {
        StoryClasses x = all();
        for (int t = 0; t < 6; t++) {
            for (int what = COUNT; what <= OWN_MARK; what++) {
                c.due("0 at first", x.of(t, what), 0);
            }
            for (int i = 0; i < x.of(t, PLACES); i++) {
                c.due("empty at first", x.of(t, SHELF + i), NONE);
            }
        }
    }

    /** "a COUNT .. (ints, 0 at first, wrapping)". */
    private static void countWraps() {
        StoryClasses x = all();
        answers(x, TAKE, BOX, HIGH, HIGH);
        answers(x, TAKE, BOX, 1, LOW);
        c.due("COUNT wraps", x.of(BOX, COUNT), LOW);
        answers(x, TAKE, BOX, -1, HIGH);
        c.due("COUNT wraps back", x.of(BOX, COUNT), HIGH);
        answers(x, TAKE, LAMP, LOW, LOW);
        answers(x, TAKE, LAMP, -1, HIGH);
        answers(x, TAKE, CRATE, LOW, LOW);
        answers(x, TAKE, CRATE, 9, LOW + 9);
    }

    /** "a MARK (ints, ..)"; "an OWN MARK besides (likewise)". */
    private static void marksAreInts() {
        StoryClasses x = all();
        int[] message = {SET_MARK, SET_CRATE_MARK, SET_LANTERN_MARK};
        int[] thing = {BOX, CRATE, LANTERN};
        for (int k = 0; k < 3; k++) {
            answers(x, message[k], thing[k], HIGH, 0);
            answers(x, message[k], thing[k], LOW, HIGH);
            c.due("the least int", x.of(thing[k], k == 0 ? 2 : OWN_MARK), LOW);
            answers(x, message[k], thing[k], -1, LOW);
            answers(x, message[k], thing[k], 0, -1);
        }
    }

    /** "an OWN MARK besides (likewise)": it wraps where it becomes 1 more. */
    private static void ownMarkWraps() {
        StoryClasses x = all();
        for (int t = CAGE; t <= CART; t++) {
            answers(x, SET_CRATE_MARK, t, HIGH, 0);
            answers(x, TAKE, t, 1, 1);
            c.due("OWN MARK wraps", x.of(t, OWN_MARK), LOW);
            answers(x, SET_CRATE_MARK, t, HIGH - 99, LOW);
            answers(x, OPEN, t, 0, LOW);
            answers(x, SET_CRATE_MARK, t, HIGH - 100, HIGH - 99);
            answers(x, OPEN, t, 0, HIGH);
        }
    }

    /** "MESSAGES (n: as an int)". */
    private static void numbersAsInts() {
        StoryClasses x = all();
        answers(x, TAKE, BOX, 1L << 32, 0);
        answers(x, TAKE, BOX, (1L << 32) + 7, 7);
        answers(x, TAKE, CRATE, (1L << 32) + 9, 9);
        refuses(x, TAKE, CRATE, (1L << 32) + 1, OWN);
        answers(x, TAKE, LAMP, Long.MAX_VALUE, -1);
        answers(x, MARK, LAMP, 0, -1);
        answers(x, SET_MARK, BOX, HIGH + 1L, 0);
        answers(x, SET_MARK, BOX, Long.MIN_VALUE, LOW);
        answers(x, SET_CRATE_MARK, CART, 1L << 32, 0);
        answers(x, SET_CRATE_MARK, CART, LOW - 1L, 0);
        answers(x, CRATE_MARK, CART, 0, HIGH);
        answers(x, SET_LANTERN_MARK, LANTERN, (1L << 40) + 3, 0);
        c.due("OWN MARK", x.of(LANTERN, OWN_MARK), 3);
    }

    /** "KINDS: 0 BOX .. 5 LANTERN"; promise 8: "BAD". */
    private static void kindsAre0To5() {
        StoryClasses x = new StoryClasses();
        for (int kind : new int[] {-1, 6, LOW, HIGH}) {
            c.due("8 no KIND " + kind, x.thing(kind), BAD);
        }
        c.due("8 none came", x.count(0, 0), 0);
        c.due("8 KIND 5", x.thing(5), 0);
        c.due("8 KIND 0", x.thing(0), 1);
        c.due("9 KIND 5", x.of(0, 0), 5);
        c.due("9 KIND 0", x.of(1, 0), 0);
    }

    /** "A CRATE (so also a CAGE, a CART) and a LANTERN have an OWN MARK besides"; promise 9: "(0 of others)". */
    private static void ownMarkOfOthers() {
        for (int t = 0; t < 6; t++) {
            StoryClasses x = all();
            answers(x, SET_MARK, t, 5, 0);
            c.due("9 MARK is not OWN MARK", x.of(t, OWN_MARK), 0);
            x.run(SET_CRATE_MARK, t, 6);
            c.due("9 OWN MARK", x.of(t, OWN_MARK), isCrate(t) ? 6 : 0);
            x.run(SET_LANTERN_MARK, t, 7);
            c.due("9 OWN MARK", x.of(t, OWN_MARK), isCrate(t) ? 6 : t == LANTERN ? 7 : 0);
            c.due("9 MARK stays", x.of(t, 2), 5);
        }
    }

    /** "The SHELF of a BOX has 4 places .., of a CRATE (CAGE, CART) 3 .., of a LAMP, LANTERN 2"; INDEX of 24, 25. */
    private static void placesOfShelves() {
        int[] places = {4, 3, 3, 3, 2, 2};
        for (int s = 0; s < 6; s++) {
            StoryClasses x = all();
            c.due("9 places", x.of(s, PLACES), places[s]);
            for (long i : new long[] {0, places[s] - 1}) {
                c.gives("24 place " + i, x, CLEAR, s, i, 77);
                c.gives("25 place " + i, x, LOOK, s, i, NONE);
            }
            for (long i : new long[] {-1, places[s], 1L << 32, LOW, Long.MIN_VALUE, Long.MAX_VALUE}) {
                c.fails("24 no place " + i, x, CLEAR, s, i, INDEX, 3);
                c.fails("25 no place " + i, x, LOOK, s, i, INDEX, 2);
            }
            c.due("9 the last place", x.of(s, SHELF + places[s] - 1), NONE);
            c.due("9 none such", x.of(s, SHELF + places[s]), 0);
        }
    }

    /** ".. for BOXES (any THINGS), .. for CRATES, .. for LAMPS"; 24: "STORE (it has no place for such)". */
    private static void shelvesHavePlacesFor() {
        for (int s = 0; s < 6; s++) {
            StoryClasses x = all();
            for (int t = 0; t < 6; t++) {
                boolean fits = s == BOX || (isCrate(s) ? isCrate(t) : t == LAMP || t == LANTERN);
                if (fits) {
                    c.gives("24 " + t + " on " + s, x, LAY, s, t, 77);
                    c.gives("25 it lies there", x, LOOK, s, 0, t);
                    c.due("9 it lies there", x.of(s, SHELF), t);
                } else {
                    int lay = x.of(s, SHELF);
                    c.fails("24 " + t + " on " + s, x, LAY, s, t, STORE, 3);
                    c.due("9 what lay there stays", x.of(s, SHELF), lay);
                }
            }
        }
    }

    /** "0 WEIGH: BOX: 2 and COUNT; CRATE: twice that; CART: 1 more than a CRATE; LANTERN: .. less OWN MARK." */
    private static void weigh() {
        int[] empty = {2, 4, 4, 5, 2, 2};
        int[] with7 = {9, 18, 18, 19, 9, 9};
        StoryClasses x = all();
        for (int t = 0; t < 6; t++) {
            answers(x, WEIGH, t, 0, empty[t]);
            x.run(TAKE, t, 7);
            x.run(SET_MARK, t, 1000);
            x.run(SET_CRATE_MARK, t, 1000);
            answers(x, WEIGH, t, 0, with7[t]);
        }
        answers(x, SET_LANTERN_MARK, LANTERN, 30, 0);
        answers(x, WEIGH, LANTERN, 0, -21);
        answers(x, SET_LANTERN_MARK, LANTERN, -30, 30);
        answers(x, WEIGH, LANTERN, 0, 39);
    }

    /** WEIGH is reckoned as COUNT and MARKS are: in ints, wrapping. */
    private static void weighWraps() {
        StoryClasses x = all();
        answers(x, TAKE, BOX, HIGH - 2, HIGH - 2);
        answers(x, WEIGH, BOX, 0, HIGH);
        answers(x, TAKE, BOX, 1, HIGH - 1);
        answers(x, WEIGH, BOX, 0, LOW);
        answers(x, TAKE, CRATE, LOW, LOW);
        answers(x, WEIGH, CRATE, 0, 4);
        answers(x, TAKE, CART, LOW / 2 - 2, LOW / 2 - 2);
        answers(x, WEIGH, CART, 0, LOW + 1);
        answers(x, TAKE, CART, -1, LOW / 2 - 3);
        answers(x, WEIGH, CART, 0, HIGH);
        answers(x, SET_LANTERN_MARK, LANTERN, LOW, 0);
        answers(x, WEIGH, LANTERN, 0, LOW + 2);
        answers(x, TAKE, LAMP, HIGH - 6, HIGH - 6);
        answers(x, GLOW, LAMP, 0, LOW);
        answers(x, TAKE, LANTERN, 1 << 30, 1 << 30);
        answers(x, GLOW, LANTERN, 0, -(1 << 30));
    }

    /** "1 TAKE n: BOX: COUNT becomes n more, and is answered". */
    private static void takeOfABox() {
        StoryClasses x = all();
        answers(x, TAKE, BOX, 9, 9);
        answers(x, TAKE, BOX, 1, 10);
        answers(x, TAKE, BOX, 0, 10);
        answers(x, TAKE, BOX, -30, -20);
        c.due("9 COUNT", x.of(BOX, COUNT), -20);
        c.due("9 MARK", x.of(BOX, 2), 0);
    }

    /** "CRATE: OWN with 50, if COUNT + n is above 9, else as a BOX". */
    private static void takeOfACrate() {
        for (int t = CRATE; t <= CART; t++) {
            StoryClasses x = all();
            refuses(x, TAKE, t, 10, OWN);
            c.due("9 refused", x.of(t, COUNT), 0);
            answers(x, TAKE, t, 9, 9);
            refuses(x, TAKE, t, 1, OWN);
            c.due("9 refused", x.of(t, COUNT), 9);
            answers(x, TAKE, t, 0, 9);
            answers(x, TAKE, t, -14, -5);
            refuses(x, TAKE, t, 15, OWN);
            answers(x, TAKE, t, 14, 9);
            refuses(x, TAKE, t, HIGH - 9, OWN);
            c.due("9 COUNT", x.of(t, COUNT), 9);
            c.due("9 MARK", x.of(t, 2), 0);
        }
    }

    /** COUNT + n of a CRATE is reckoned as COUNT is: in ints, wrapping. */
    private static void takeOfACrateWraps() {
        StoryClasses x = all();
        answers(x, TAKE, CRATE, 9, 9);
        answers(x, TAKE, CRATE, HIGH - 8, LOW);
        refuses(x, TAKE, CRATE, -1, OWN);
        c.due("9 COUNT", x.of(CRATE, COUNT), LOW);
    }

    /** "CAGE: OWN MARK becomes 1 more (in any case), then as a CRATE". */
    private static void takeOfACage() {
        StoryClasses x = all();
        for (int t = CRATE; t <= CART; t++) {
            int more = t == CRATE ? 0 : 1;
            answers(x, TAKE, t, 9, 9);
            c.due("9 OWN MARK", x.of(t, OWN_MARK), more);
            refuses(x, TAKE, t, 1, OWN);
            c.due("9 OWN MARK in any case", x.of(t, OWN_MARK), 2 * more);
            answers(x, TAKE, t, 0, 9);
            c.due("9 OWN MARK", x.of(t, OWN_MARK), 3 * more);
        }
        for (int t : new int[] {BOX, LAMP, LANTERN}) {
            x.run(TAKE, t, 3);
            c.due("9 OWN MARK of others", x.of(t, OWN_MARK), 0);
        }
    }

    /** "LAMP: as a BOX, then MARK becomes n (COUNT is answered); LANTERN: as a LAMP, but MARK is answered." */
    private static void takeOfALamp() {
        StoryClasses x = all();
        answers(x, TAKE, LAMP, 9, 9);
        answers(x, TAKE, LAMP, 2, 11);
        c.due("9 MARK", x.of(LAMP, 2), 2);
        c.due("9 COUNT", x.of(LAMP, COUNT), 11);
        answers(x, SET_LANTERN_MARK, LANTERN, 500, 0);
        answers(x, TAKE, LANTERN, 9, 9);
        answers(x, TAKE, LANTERN, 2, 2);
        c.due("9 MARK", x.of(LANTERN, 2), 2);
        c.due("9 COUNT", x.of(LANTERN, COUNT), 11);
        c.due("9 OWN MARK", x.of(LANTERN, OWN_MARK), 500);
    }

    /** "2 GLOW: LAMP: 5 more than WEIGH; LANTERN: three times COUNT". */
    private static void glow() {
        StoryClasses x = all();
        answers(x, GLOW, LAMP, 0, 7);
        answers(x, GLOW, LANTERN, 0, 0);
        answers(x, TAKE, LAMP, 10, 10);
        answers(x, TAKE, LANTERN, 10, 10);
        answers(x, SET_LANTERN_MARK, LANTERN, 4, 0);
        answers(x, GLOW, LAMP, 0, 17);
        answers(x, GLOW, LANTERN, 0, 30);
    }

    /** "2 GLOW: .. others: CAST." */
    private static void glowOfOthers() {
        StoryClasses x = all();
        for (int t = BOX; t <= CART; t++) {
            refuses(x, GLOW, t, 0, CAST);
        }
    }

    /** "3 OPEN: BOX: DUMB; CRATE: OWN MARK; CAGE: 100 more than a CRATE." */
    private static void open() {
        StoryClasses x = all();
        for (int t : new int[] {BOX, LAMP, LANTERN}) {
            x.run(SET_MARK, t, 8);
            x.run(SET_LANTERN_MARK, t, 9);
            refuses(x, OPEN, t, 0, DUMB);
        }
        for (int t = CRATE; t <= CART; t++) {
            int more = t == CRATE ? 0 : 100;
            answers(x, OPEN, t, 0, more);
            x.run(SET_MARK, t, 8);
            answers(x, SET_CRATE_MARK, t, -7, 0);
            answers(x, OPEN, t, 0, more - 7);
        }
    }

    /** "4: MARK." */
    private static void mark() {
        StoryClasses x = all();
        for (int t = 0; t < 6; t++) {
            answers(x, MARK, t, 0, 0);
            x.run(SET_CRATE_MARK, t, 60);
            x.run(SET_LANTERN_MARK, t, 61);
            answers(x, SET_MARK, t, 30 + t, 0);
            answers(x, MARK, t, 0, 30 + t);
        }
    }

    /** "5: OWN MARK of a CRATE (others: CAST)." */
    private static void crateMark() {
        StoryClasses x = all();
        for (int t = 0; t < 6; t++) {
            x.run(SET_MARK, t, 60);
            x.run(SET_CRATE_MARK, t, 40 + t);
            x.run(SET_LANTERN_MARK, t, 61);
            if (isCrate(t)) {
                answers(x, CRATE_MARK, t, 0, 40 + t);
            } else {
                refuses(x, CRATE_MARK, t, 0, CAST);
            }
        }
    }

    /** "6, 7, 8 n: MARK, OWN MARK of a CRATE, .. of a LANTERN becomes n (7, 8, others: CAST); what it was .." */
    private static void setMarks() {
        StoryClasses x = all();
        for (int t = 0; t < 6; t++) {
            answers(x, SET_MARK, t, 11, 0);
            answers(x, SET_MARK, t, 12, 11);
            if (isCrate(t)) {
                answers(x, SET_CRATE_MARK, t, 21, 0);
                answers(x, SET_CRATE_MARK, t, 22, 21);
                refuses(x, SET_LANTERN_MARK, t, 31, CAST);
                c.due("9 OWN MARK", x.of(t, OWN_MARK), 22);
            } else if (t == LANTERN) {
                answers(x, SET_LANTERN_MARK, t, 31, 0);
                answers(x, SET_LANTERN_MARK, t, 32, 31);
                refuses(x, SET_CRATE_MARK, t, 21, CAST);
                c.due("9 OWN MARK", x.of(t, OWN_MARK), 32);
            } else {
                refuses(x, SET_CRATE_MARK, t, 21, CAST);
                refuses(x, SET_LANTERN_MARK, t, 31, CAST);
                c.due("9 OWN MARK", x.of(t, OWN_MARK), 0);
            }
            c.due("9 MARK", x.of(t, 2), 12);
        }
    }

    /** 23: "NOTHING (no such THING), what the MESSAGE tells". */
    private static void messagesToNone() {
        StoryClasses x = all();
        long[] none = {-1, 6, 12, 1L << 32, (1L << 32) + 5, Long.MIN_VALUE, Long.MAX_VALUE};
        for (int message = 0; message < 9; message++) {
            for (long t : none) {
                refuses(x, message, t, 3, NOTHING);
            }
        }
        StoryClasses y = all();
        answers(y, TAKE, 5, 3, 3);
        refuses(y, TAKE, 6, 3, NOTHING);
        y.thing(BOX);
        answers(y, TAKE, 6, 3, 3);
    }

    /** 23 takes t, and n of 1, 6, 7, 8 alone: "PILE: there are too few". */
    private static void messagesAreCounted() {
        for (int message = 0; message < 9; message++) {
            boolean two = message == TAKE || message >= SET_MARK;
            for (int laid = 0; laid < 3; laid++) {
                StoryClasses x = new StoryClasses();
                for (int i = 0; i < 4; i++) {
                    x.thing(LANTERN);
                }
                int r = Check.routine(x, 1, Check.onPile(laid, Check.op(23, message)));
                x.run(r, 0, 0);
                c.due("23 " + message + " on " + laid, x.told(0) == Check.PILE ? 1 : 0, laid < (two ? 2 : 1) ? 1 : 0);
            }
        }
        // Of t, n: t was laid first.
        StoryClasses x = all();
        answers(x, SET_MARK, 4, 5, 0);
        c.due("23 t is the first", x.of(4, 2), 5);
        c.due("23 n is the second", x.of(5, 2), 0);
    }

    /** 24: "NOTHING (of s; of t), INDEX, STORE": the first that fits. */
    private static void layRefuses() {
        StoryClasses x = all();
        long[] none = {-2, 6, 1L << 32, (1L << 32) - 1, Long.MIN_VALUE, Long.MAX_VALUE};
        for (long n : none) {
            c.fails("24 no s " + n, x, LAY, n, 0, NOTHING, 3);
            c.fails("24 no t " + n, x, LAY, 0, n, NOTHING, 3);
        }
        c.fails("24 -1 is no s", x, LAY, -1, 0, NOTHING, 3);
        c.gives("24 -1 is empty", x, LAY, 0, -1, 77);
        StoryClasses y = new StoryClasses();
        y.thing(CRATE);
        y.thing(BOX);
        c.faults("24 no s, no place", y, NOTHING, 3, Check.op(0, 2), Check.op(0, 3), Check.op(0, 0), Check.op(24));
        c.faults("24 no t, no place", y, NOTHING, 3, Check.op(0, 0), Check.op(0, 3), Check.op(0, 2), Check.op(24));
        c.faults("24 no place for such", y, INDEX, 3, Check.op(0, 0), Check.op(0, 3), Check.op(0, 1), Check.op(24));
        c.faults("24 no such place", y, INDEX, 3, Check.op(0, 0), Check.op(0, -1), Check.op(0, 1), Check.op(24));
        c.faults("24 empty, no place", y, INDEX, 3, Check.op(0, 0), Check.op(0, 3), Check.op(0, -1), Check.op(24));
        c.faults("24 no such", y, STORE, 3, Check.op(0, 0), Check.op(0, 2), Check.op(0, 1), Check.op(24));
    }

    /** 24: "place i of the SHELF of THING s becomes THING t (-1: empty)". */
    private static void layStores() {
        StoryClasses x = new StoryClasses();
        for (int t = 0; t < 12; t++) {
            x.thing(BOX);
        }
        int lay = Check.routine(x, 2, Check.op(1, 0), Check.op(0, 3), Check.op(1, 1), Check.op(24), Check.op(0, 1),
            Check.op(20));
        for (int s = 0; s < 12; s++) {
            c.gives("24 the last place", x, lay, s, 11 - s, 1);
        }
        for (int s = 0; s < 12; s++) {
            c.due("9 the last place", x.of(s, 8), 11 - s);
            c.due("9 the others", x.of(s, 7), NONE);
            c.due("9 the others", x.of(s, 5), NONE);
        }
        c.gives("24 empty", x, lay, 0, -1, 1);
        c.due("9 empty", x.of(0, 8), NONE);
        c.gives("24 itself", x, lay, 0, 0, 1);
        c.due("9 itself", x.of(0, 8), 0);
    }

    /** "what is refused changes nothing", of 24. */
    private static void layChangesNothing() {
        StoryClasses x = all();
        c.gives("24", x, LAY, CRATE, CAGE, 77);
        c.fails("24 STORE", x, LAY, CRATE, BOX, STORE, 3);
        c.fails("24 NOTHING", x, LAY, CRATE, 6, NOTHING, 3);
        c.fails("24 INDEX", x, CLEAR, CRATE, 3, INDEX, 3);
        c.due("9 stays", x.of(CRATE, 5), CAGE);
        c.due("9 stays", x.of(CRATE, 6), NONE);
        c.due("9 stays", x.of(CRATE, 7), NONE);
        c.due("9 the next thing's", x.of(CAGE, 5), NONE);
    }

    /** 25: "lays which THING lies there (-1): NOTHING, INDEX." */
    private static void look() {
        StoryClasses x = all();
        c.gives("25 empty", x, LOOK, BOX, 3, -1);
        c.gives("24", x, LAY, BOX, LANTERN, 77);
        c.gives("25 which", x, LOOK, BOX, 0, LANTERN);
        c.gives("25 the next", x, LOOK, BOX, 1, -1);
        for (long s : new long[] {-1, 6, 1L << 32, Long.MIN_VALUE, Long.MAX_VALUE}) {
            c.fails("25 no s", x, LOOK, s, 0, NOTHING, 2);
            c.fails("25 NOTHING before INDEX", x, LOOK, s, 4, NOTHING, 2);
        }
        c.fails("25 INDEX", x, LOOK, BOX, 4, INDEX, 2);
        c.fails("25 INDEX", x, LOOK, LANTERN, 2, INDEX, 2);
    }

    /** Promise 9: "0 also: there is none such." */
    private static void ofNone() {
        StoryClasses x = all();
        for (int t : new int[] {-1, 6, 11, 12, LOW, HIGH}) {
            for (int what = -1; what < 10; what++) {
                c.due("9 no THING " + t, x.of(t, what), 0);
            }
        }
        c.gives("24", x, LAY, CAGE, CART, 77);
        c.gives("24", x, LAY, LANTERN, LAMP, 77);
        for (int what : new int[] {-1, 9, 10, LOW, HIGH, LOW + 4, LOW + 5}) {
            c.due("9 no such of a BOX: " + what, x.of(BOX, what), 0);
        }
        c.due("9 the last of a BOX", x.of(BOX, 8), NONE);
        c.due("9 the last of a CRATE", x.of(CRATE, 7), NONE);
        c.due("9 none such of a CRATE", x.of(CRATE, 8), 0);
        c.due("9 the last of a LAMP", x.of(LAMP, 6), NONE);
        c.due("9 none such of a LAMP", x.of(LAMP, 7), 0);
        c.due("9 none such of a LAMP", x.of(LAMP, 8), 0);
    }
}
