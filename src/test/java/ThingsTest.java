/** Promises 8 and 9, thing and of, and the ops 23, 24, 25 that use things. */
public final class ThingsTest {
    private static final int BAD = Check.BAD, FULL = Check.FULL, NONE = Check.NONE;
    private static final int BOX = 0, CRATE = 1, CAGE = 2, CART = 3, LAMP = 4, LANTERN = 5;
    private static final int NOTHING = 1, INDEX = 2, CAST = 3, STORE = 4, PILE = 8, OWN = 11, DUMB = 12;
    private static final Check c = new Check();

    public static void main(String[] args) {
        thing();
        of();
        weigh();
        take();
        ownNumbers();
        glow();
        open();
        marks();
        wrapping();
        sendRefused();
        shelves();
        c.end();
    }

    /** A story with one thing of each kind; the thing's number is its kind. */
    private static StoryClasses all() {
        StoryClasses x = new StoryClasses();
        for (int kind = 0; kind < 6; kind++) {
            x.thing(kind);
        }
        return x;
    }

    private static int[] lay(int n) {
        return Check.op(0, n);
    }

    private static void answers(String what, StoryClasses x, int message, int t, int n, long want) {
        if (message == 1 || message >= 6) {
            c.due(what, c.play(fresh(x), lay(t), lay(n), Check.op(23, message), Check.op(20)), 0);
        } else {
            c.due(what, c.play(fresh(x), lay(t), Check.op(23, message), Check.op(20)), 0);
        }
        c.due(what, x.result(), want);
    }

    private static void refuses(String what, StoryClasses x, int message, int t, int n, int code) {
        int[] send = Check.op(23, message);
        c.due(what, c.play(fresh(x), lay(t), message == 1 || message >= 6 ? lay(n) : Check.op(10, 2), send), 1);
        c.due(what, x.told(0), code);
        c.due(what, x.number(), code == OWN ? 50 : 0);
    }

    private static StoryClasses fresh(StoryClasses x) {
        if (x.count(1, 0) == 12) {
            throw new IllegalStateException("the test needs a story with fewer routines");
        }
        return x;
    }

    private static void thing() {
        StoryClasses x = new StoryClasses();
        c.due("8 low", x.thing(-1), BAD);
        c.due("8 high", x.thing(6), BAD);
        for (int i = 0; i < 12; i++) {
            c.due("8 thing", x.thing(i % 6), i);
            c.due("8 kind", x.of(i, 0), i % 6);
        }
        c.due("8 full", x.thing(0), FULL);
        c.due("8 bad before full", x.thing(6), BAD);
        c.due("19 things", x.count(0, 0), 12);
    }

    private static void of() {
        StoryClasses x = all();
        int[] places = {4, 3, 3, 3, 2, 2};
        for (int t = 0; t < 6; t++) {
            for (int what = 1; what < 4; what++) {
                c.due("9 at first", x.of(t, what), 0);
            }
            c.due("9 places", x.of(t, 4), places[t]);
            for (int what = 5; what < 12; what++) {
                c.due("9 place", x.of(t, what), what < 5 + places[t] ? NONE : 0);
            }
            c.due("9 low", x.of(t, -1), 0);
            c.due("9 high", x.of(t, Integer.MAX_VALUE), 0);
        }
        c.due("9 none such", x.of(6, 4), 0);
        c.due("9 none such", x.of(-1, 4), 0);
        c.due("9 none such", x.of(6, 5), 0);
    }

    private static void weigh() {
        int[] weights = {5, 10, 10, 11, 5, 5};
        StoryClasses x = all();
        StoryClasses y = all();
        for (int t = 0; t < 6; t++) {
            answers("23 take", x, 1, t, 3, 3);
            answers("23 weigh", x, 0, t, 0, weights[t]);
            answers("23 weigh at first", y, 0, t, 0, t >= CRATE && t <= CART ? 4 + (t == CART ? 1 : 0) : 2);
        }
        StoryClasses z = all();
        answers("23 set lantern", z, 8, LANTERN, 7, 0);
        answers("23 weigh lantern", z, 0, LANTERN, 0, -5);
    }

    private static void take() {
        StoryClasses x = all();
        answers("23 box", x, 1, BOX, 20, 20);
        answers("23 box", x, 1, BOX, -5, 15);
        answers("23 crate", x, 1, CRATE, 9, 9);
        refuses("23 crate", x, 1, CRATE, 1, OWN);
        c.due("23 crate count", x.of(CRATE, 1), 9);
        c.due("23 crate own mark", x.of(CRATE, 3), 0);
        refuses("23 cage", x, 1, CAGE, 10, OWN);
        answers("23 cage", x, 1, CAGE, 9, 9);
        c.due("23 cage own mark in any case", x.of(CAGE, 3), 2);
        refuses("23 cart", x, 1, CART, 10, OWN);
        c.due("23 cart own mark", x.of(CART, 3), 1);
        c.due("23 cart mark", x.of(CART, 2), 0);
        answers("23 lamp", x, 1, LAMP, 20, 20);
        answers("23 lamp", x, 1, LAMP, 5, 25);
        c.due("23 lamp mark", x.of(LAMP, 2), 5);
        answers("23 lantern", x, 1, LANTERN, 20, 20);
        answers("23 lantern answers its mark", x, 1, LANTERN, 5, 5);
        c.due("23 lantern count", x.of(LANTERN, 1), 25);
    }

    private static void ownNumbers() {
        StoryClasses x = all();
        int r = Check.routine(x, 1, lay(7), Check.op(21), lay(CRATE), lay(10), Check.op(23, 1));
        x.guard(r, 1, 2, OWN, 2);
        c.due("23 OWN with 50 after another", x.run(r, 0, 0), 1);
        c.due("23 OWN with 50 after another", x.number(), 50);
        int s = Check.routine(x, 1, lay(CRATE), lay(10), Check.op(23, 1), lay(7), lay(CRATE), Check.op(23, 0),
            Check.op(26), Check.op(21));
        x.guard(s, 2, 3, OWN, 3);
        c.due("21 OWN with its own after that", x.run(s, 0, 0), 1);
        c.due("21 OWN with its own after that", x.number(), 7);
    }

    private static void glow() {
        StoryClasses x = all();
        for (int t = BOX; t <= CART; t++) {
            refuses("23 glow", x, 2, t, 0, CAST);
        }
        answers("23 take", x, 1, LAMP, 4, 4);
        answers("23 take", x, 1, LANTERN, 4, 4);
        answers("23 glow lamp", x, 2, LAMP, 0, 11);
        answers("23 glow lantern", x, 2, LANTERN, 0, 12);
    }

    private static void open() {
        StoryClasses x = all();
        refuses("23 open box", x, 3, BOX, 0, DUMB);
        refuses("23 open lamp", x, 3, LAMP, 0, DUMB);
        refuses("23 open lantern", x, 3, LANTERN, 0, DUMB);
        answers("23 set", x, 7, CRATE, 8, 0);
        answers("23 open crate", x, 3, CRATE, 0, 8);
        answers("23 set", x, 7, CAGE, 8, 0);
        answers("23 open cage", x, 3, CAGE, 0, 108);
        answers("23 open cart", x, 3, CART, 0, 100);
    }

    private static void marks() {
        for (int t = 0; t < 6; t++) {
            StoryClasses x = all();
            boolean crate = t >= CRATE && t <= CART;
            answers("23 set mark", x, 6, t, 31, 0);
            answers("23 set mark again", x, 6, t, 32, 31);
            answers("23 mark", x, 4, t, 0, 32);
            c.due("9 mark", x.of(t, 2), 32);
            if (crate) {
                answers("23 set own", x, 7, t, 41, 0);
                answers("23 own", x, 5, t, 0, 41);
                refuses("23 set lantern's", x, 8, t, 1, CAST);
                c.due("9 own mark", x.of(t, 3), 41);
            } else {
                refuses("23 set own", x, 7, t, 41, CAST);
                refuses("23 own", x, 5, t, 0, CAST);
            }
            if (t == LANTERN) {
                answers("23 set lantern's", x, 8, t, 51, 0);
                answers("23 set lantern's", x, 8, t, 52, 51);
                c.due("9 own mark", x.of(t, 3), 52);
            } else {
                refuses("23 set lantern's", x, 8, t, 51, CAST);
            }
            c.due("9 mark stays", x.of(t, 2), 32);
        }
    }

    private static void wrapping() {
        StoryClasses x = all();
        answers("23 box", x, 1, BOX, Integer.MAX_VALUE, Integer.MAX_VALUE);
        answers("23 box wraps", x, 1, BOX, 1, Integer.MIN_VALUE);
        answers("23 weigh", x, 0, BOX, 0, Integer.MIN_VALUE + 2);
        int r = Check.routine(x, 2, lay(LAMP), Check.op(1, 0), Check.op(23, 6), Check.op(26), lay(LAMP),
            Check.op(23, 4), Check.op(20));
        c.due("23 n as an int", x.run(r, (1L << 32) + 5, 0), 0);
        c.due("23 n as an int", x.result(), 5);
        c.due("23 n as an int", x.run(r, Long.MIN_VALUE + 4, 0), 0);
        c.due("23 n as an int", x.result(), 4);
    }

    private static void sendRefused() {
        StoryClasses x = all();
        refuses("23 no such", x, 4, 6, 0, NOTHING);
        refuses("23 no such", x, 4, -1, 0, NOTHING);
        refuses("23 no such", x, 6, 6, 0, NOTHING);
        int r = Check.routine(x, 2, Check.op(1, 0), Check.op(23, 4));
        c.due("23 t is no int", x.run(r, 1L << 32, 0), 1);
        c.due("23 t is no int", x.told(0), NOTHING);
        c.faults("23 too few", x, PILE, 0, Check.op(23, 4));
        c.faults("23 too few", x, PILE, 1, lay(0), Check.op(23, 1));
        c.due("23 nothing was done", x.of(0, 1), 0);
    }

    private static void onShelf(String what, StoryClasses x, int s, int i, int t, int code) {
        int due = code == 0 ? 0 : 1;
        c.due(what, c.play(x, lay(s), lay(i), lay(t), Check.op(24), lay(s), lay(i), Check.op(25), Check.op(20)), due);
        c.due(what, x.told(0), code);
        c.due(what, x.result(), code == 0 ? t : 0);
        if (code == 0) {
            c.due(what, x.of(s, 5 + i), t);
        }
    }

    private static void shelves() {
        int[] places = {4, 3, 3, 3, 2, 2};
        for (int s = 0; s < 6; s++) {
            StoryClasses x = all();
            for (int t = 0; t < 6; t++) {
                boolean goes = s == BOX || (s <= CART ? t >= CRATE && t <= CART : t >= LAMP);
                onShelf("24 store", x, s, places[s] - 1, t, goes ? 0 : STORE);
            }
            onShelf("24 empty", x, s, places[s] - 1, -1, 0);
            onShelf("24 index", x, s, places[s], -1, INDEX);
            onShelf("24 index before store", x, s, -1, s == BOX ? 0 : BOX, INDEX);
        }
        StoryClasses x = all();
        onShelf("24 no s", x, 6, 0, 0, NOTHING);
        onShelf("24 no t", x, 0, 9, 6, NOTHING);
        onShelf("24 no t", x, 0, 0, -2, NOTHING);
        onShelf("24 itself", x, 0, 0, 0, 0);
        c.faults("25 no s", x, NOTHING, 2, lay(-1), lay(0), Check.op(25));
        c.faults("25 index", x, INDEX, 2, lay(0), lay(4), Check.op(25));
        c.faults("25 index", x, INDEX, 2, lay(0), lay(-1), Check.op(25));
        c.faults("25 too few", x, PILE, 1, lay(0), Check.op(25));
        c.faults("24 too few", x, PILE, 2, lay(0), lay(0), Check.op(24));
        c.due("24 stays", x.of(0, 5), 0);
    }
}
