import java.lang.reflect.Array;
import java.util.ArrayList;
import java.util.IdentityHashMap;
import java.util.List;
import java.util.Map;

/**
 * The document a second time, written apart from the class: with Java's own arrays, classes and exceptions, and a
 * routine that calls is a method that calls. It may do all that the class may not.
 */
final class Model {
    static final int NONE = -1, BAD = -1000000, FULL = -1000001;
    private static final Class<?>[] LANES = {boolean.class, byte.class, short.class, char.class, int.class,
        long.class, float.class, double.class};

    /** What a story throws. */
    private static final class StoryFault extends Exception {
        private static final long serialVersionUID = 1L;
        final int code;
        final long number;
        int routine = NONE;
        int place = NONE;

        StoryFault(int code, long number) {
            super(null, null, false, false);
            this.code = code;
            this.number = number;
        }
    }

    private static final class Spent extends RuntimeException {
        private static final long serialVersionUID = 1L;
    }

    private static final class Overload extends RuntimeException {
        private static final long serialVersionUID = 1L;
    }

    private static class Box {
        int count;
        int mark;
        Box[] shelf = new Box[4];

        int weigh() {
            return 2 + count;
        }

        int take(int n) {
            count += n;
            return count;
        }

        int open() {
            throw new UnsupportedOperationException();
        }
    }

    private static class Crate extends Box {
        int mark;

        Crate() {
            shelf = new Crate[3];
        }

        @Override
        int weigh() {
            return 2 * super.weigh();
        }

        @Override
        int take(int n) {
            if (count + n > 9) {
                throw new Overload();
            }
            return super.take(n);
        }

        @Override
        int open() {
            return mark;
        }
    }

    private static class Cage extends Crate {
        @Override
        int take(int n) {
            mark++;
            return super.take(n);
        }

        @Override
        int open() {
            return 100 + super.open();
        }
    }

    private static final class Cart extends Cage {
        @Override
        int weigh() {
            return super.weigh() + 1;
        }
    }

    private static class Lamp extends Box {
        Lamp() {
            shelf = new Lamp[2];
        }

        @Override
        int take(int n) {
            int answer = super.take(n);
            mark = n;
            return answer;
        }

        int glow() {
            return 5 + weigh();
        }
    }

    private static final class Lantern extends Lamp {
        int mark;

        @Override
        int weigh() {
            return super.weigh() - mark;
        }

        @Override
        int take(int n) {
            super.take(n);
            return super.mark;
        }

        @Override
        int glow() {
            return 3 * count;
        }
    }

    private static final class Told {
        final int locals;
        final List<int[]> ops = new ArrayList<>();
        final List<int[]> guards = new ArrayList<>();
        int last = NONE;

        Told(int locals) {
            this.locals = locals;
        }
    }

    private static final class Kept {
        Object[] rows;
        final List<int[]> marks = new ArrayList<>();
        final List<Box[]> shelves = new ArrayList<>();
    }

    private Object[] rows = new Object[12];
    private final List<Box> things = new ArrayList<>();
    private final List<Told> routines = new ArrayList<>();
    private final List<Kept> kept = new ArrayList<>();
    private final List<Long> output = new ArrayList<>();
    private final int[] told = {0, NONE, NONE, 0, 0, 0, 0, 0};
    private long result;
    private long number;
    private int keepings;

    // The face.

    int row(int r, int lane, int n) {
        if (r < 0 || r > 11 || lane < 0 || lane > 7) {
            return BAD;
        }
        if (n < 0) {
            return -15;
        }
        if (n > 12) {
            return -17;
        }
        rows[r] = Array.newInstance(LANES[lane], n);
        return n;
    }

    int miss(int r) {
        if (r < 0 || r > 11) {
            return BAD;
        }
        boolean was = rows[r] == null;
        rows[r] = null;
        return was ? 0 : 1;
    }

    int share(int r, int s) {
        if (r < 0 || r > 11 || s < 0 || s > 11) {
            return BAD;
        }
        boolean was = rows[r] == rows[s];
        rows[r] = rows[s];
        return was ? 0 : 1;
    }

    int put(int r, int i, long v) {
        if (r < 0 || r > 11) {
            return BAD;
        }
        if (rows[r] == null) {
            return -11;
        }
        if (i < 0 || i >= Array.getLength(rows[r])) {
            return -12;
        }
        Array.set(rows[r], i, as(laneOf(rows[r]), v));
        return 1;
    }

    long item(int r, int i) {
        if (r < 0 || r > 11 || rows[r] == null || i < 0 || i >= Array.getLength(rows[r])) {
            return 0;
        }
        return asNumber(Array.get(rows[r], i));
    }

    int about(int r, int what) {
        if (r < 0 || r > 11 || what < 0 || what > 2) {
            return BAD;
        }
        if (what == 2) {
            for (int s = 0; s < 12; s++) {
                if (rows[s] == rows[r]) {
                    return s;
                }
            }
        }
        if (rows[r] == null) {
            return NONE;
        }
        return what == 0 ? Array.getLength(rows[r]) : laneOf(rows[r]);
    }

    int thing(int kind) {
        if (kind < 0 || kind > 5) {
            return BAD;
        }
        if (things.size() == 12) {
            return FULL;
        }
        Box[] kinds = {new Box(), new Crate(), new Cage(), new Cart(), new Lamp(), new Lantern()};
        things.add(kinds[kind]);
        return things.size() - 1;
    }

    int of(int t, int what) {
        if (t < 0 || t >= things.size()) {
            return 0;
        }
        Box b = things.get(t);
        switch (what) {
            case 0:
                return List.of(Box.class, Crate.class, Cage.class, Cart.class, Lamp.class, Lantern.class)
                    .indexOf(b.getClass());
            case 1:
                return b.count;
            case 2:
                return b.mark;
            case 3:
                return ownMark(b);
            case 4:
                return b.shelf.length;
            default:
                return what < 5 || what - 5 >= b.shelf.length ? 0 : things.indexOf(b.shelf[what - 5]);
        }
    }

    int routine(int locals) {
        if (locals < 1 || locals > 6) {
            return BAD;
        }
        if (routines.size() == 12) {
            return FULL;
        }
        routines.add(new Told(locals));
        return routines.size() - 1;
    }

    int op(int routine, int op, int a, int b) {
        if (!isRoutine(routine) || op < 0 || op > 29) {
            return BAD;
        }
        Told r = routines.get(routine);
        boolean local = op == 1 || op == 2;
        boolean place = op == 10 || op == 11;
        boolean row = op >= 12 && op <= 18 || op == 29;
        boolean lane = op == 12 || op == 13 || op == 15 || op == 17 || op == 18;
        if (local && (a < 0 || a >= r.locals) || place && (a < 0 || a > 29) || row && (a < 0 || a > 11)) {
            return BAD;
        }
        if (op == 19 && (a < 0 || a > 11 || b < 0 || b > 6) || op == 23 && (a < 0 || a > 8)) {
            return BAD;
        }
        if (lane && (b < 0 || b > 7) || op == 29 && (b < 0 || b > 11)) {
            return BAD;
        }
        if (r.ops.size() == 30) {
            return FULL;
        }
        r.ops.add(new int[] {op, a, b});
        return r.ops.size() - 1;
    }

    int guard(int routine, int from, int to, int code, int handler) {
        if (!isRoutine(routine) || from < 0 || from >= to || to > 30 || code < 0 || code > 12 || handler < 0
            || handler > 29) {
            return BAD;
        }
        Told r = routines.get(routine);
        if (r.guards.size() == 4) {
            return FULL;
        }
        r.guards.add(new int[] {from, to, code, handler});
        return r.guards.size() - 1;
    }

    int last(int routine, int place) {
        if (!isRoutine(routine) || place < -1 || place > 29) {
            return BAD;
        }
        int was = routines.get(routine).last;
        routines.get(routine).last = place;
        return was;
    }

    int run(int routine, long x, long y) {
        if (!isRoutine(routine) || routines.get(routine).ops.isEmpty()) {
            return BAD;
        }
        int[] none = {0, NONE, NONE, 0, 0, 0, 0, 0};
        System.arraycopy(none, 0, told, 0, 8);
        result = 0;
        number = 0;
        keepings = 0;
        output.clear();
        try {
            long[] given = routines.get(routine).locals == 1 ? new long[] {x} : new long[] {x, y};
            result = new Open(routine, given, 1).play();
            return 0;
        } catch (StoryFault f) {
            told[0] = f.code;
            told[1] = f.routine;
            told[2] = f.place;
            number = f.number;
            return 1;
        } catch (Spent s) {
            return 2;
        }
    }

    long result() {
        return result;
    }

    int told(int what) {
        return what < 0 || what > 7 ? BAD : told[what];
    }

    long number() {
        return number;
    }

    long output(int i) {
        return i < 0 || i >= output.size() ? 0 : output.get(i);
    }

    int count(int what, int k) {
        int[] sizes = {things.size(), routines.size(), kept.size(), output.size()};
        if (what >= 0 && what < 4) {
            return sizes[what];
        }
        if (what < 0 || what > 6 || !isRoutine(k)) {
            return BAD;
        }
        Told r = routines.get(k);
        return what == 4 ? r.locals : what == 5 ? r.ops.size() : r.guards.size();
    }

    int forget() {
        int gone = kept.size();
        kept.clear();
        return gone;
    }

    // What stands behind it.

    private boolean isRoutine(int k) {
        return k >= 0 && k < routines.size();
    }

    private static int laneOf(Object row) {
        return List.of(LANES).indexOf(row.getClass().getComponentType());
    }

    private static Object as(int lane, long v) {
        switch (lane) {
            case 0:
                return v % 2 != 0;
            case 1:
                return (byte) v;
            case 2:
                return (short) v;
            case 3:
                return (char) v;
            case 4:
                return (int) v;
            case 5:
                return v;
            case 6:
                return (float) v;
            default:
                return (double) v;
        }
    }

    private static long asNumber(Object held) {
        if (held instanceof Boolean truth) {
            return truth ? 1 : 0;
        }
        if (held instanceof Character sign) {
            return sign;
        }
        return ((Number) held).longValue();
    }

    private static Object ask(Object row, int i, int lane) {
        switch (lane) {
            case 0:
                return Array.getBoolean(row, i);
            case 1:
                return Array.getByte(row, i);
            case 2:
                return Array.getShort(row, i);
            case 3:
                return Array.getChar(row, i);
            case 4:
                return Array.getInt(row, i);
            case 5:
                return Array.getLong(row, i);
            case 6:
                return Array.getFloat(row, i);
            default:
                return Array.getDouble(row, i);
        }
    }

    private static void putAs(Object row, int i, int lane, long v) {
        switch (lane) {
            case 0:
                Array.setBoolean(row, i, (v & 1) == 1);
                break;
            case 1:
                Array.setByte(row, i, (byte) v);
                break;
            case 2:
                Array.setShort(row, i, (short) v);
                break;
            case 3:
                Array.setChar(row, i, (char) v);
                break;
            case 4:
                Array.setInt(row, i, (int) v);
                break;
            case 5:
                Array.setLong(row, i, v);
                break;
            case 6:
                Array.setFloat(row, i, v);
                break;
            default:
                Array.setDouble(row, i, v);
                break;
        }
    }

    private static int ownMark(Box b) {
        return b instanceof Crate crate ? crate.mark : b instanceof Lantern lantern ? lantern.mark : 0;
    }

    private int keep() {
        Kept k = new Kept();
        k.rows = rows.clone();
        Map<Object, Object> copies = new IdentityHashMap<>();
        for (int r = 0; r < 12; r++) {
            if (rows[r] != null) {
                Object row = rows[r];
                k.rows[r] = copies.computeIfAbsent(row, old -> {
                    Object copy = Array.newInstance(old.getClass().getComponentType(), Array.getLength(old));
                    System.arraycopy(old, 0, copy, 0, Array.getLength(old));
                    return copy;
                });
            }
        }
        for (Box b : things) {
            k.marks.add(new int[] {b.count, b.mark, ownMark(b)});
            k.shelves.add(b.shelf.clone());
        }
        kept.add(k);
        keepings++;
        return kept.size();
    }

    private int bringBack() {
        if (kept.isEmpty()) {
            return 0;
        }
        Kept k = kept.remove(kept.size() - 1);
        rows = k.rows;
        for (int t = 0; t < k.marks.size(); t++) {
            Box b = things.get(t);
            b.count = k.marks.get(t)[0];
            b.mark = k.marks.get(t)[1];
            if (b instanceof Crate crate) {
                crate.mark = k.marks.get(t)[2];
            } else if (b instanceof Lantern lantern) {
                lantern.mark = k.marks.get(t)[2];
            }
            b.shelf = k.shelves.get(t);
        }
        return 1;
    }

    /** A routine that is open: a call of play(). */
    private final class Open {
        private final int which;
        private final Told routine;
        private final long[] locals;
        private final int depth;
        private final ArrayList<Long> pile = new ArrayList<>();
        private int place;
        private int next;
        private boolean lastBegun;
        private StoryFault faultAside;
        private long aside;
        private boolean ended;
        private long answer;

        Open(int which, long[] given, int depth) {
            this.which = which;
            this.routine = routines.get(which);
            this.locals = java.util.Arrays.copyOf(given, routine.locals);
            this.depth = depth;
            told[7] = Math.max(told[7], depth);
        }

        long play() throws StoryFault {
            while (!ended) {
                if (told[3] == 300) {
                    throw new Spent();
                }
                told[3]++;
                boolean leaves = routine.ops.get(place)[0] == 22 && lastBegun;
                try {
                    step(routine.ops.get(place));
                    if (!ended && !hasOp(next)) {
                        throw new StoryFault(10, 0);
                    }
                    place = next;
                } catch (StoryFault f) {
                    if (leaves) {
                        throw f;
                    }
                    meet(f);
                }
            }
            return answer;
        }

        private boolean hasOp(int at) {
            return at >= 0 && at < routine.ops.size();
        }

        private void meet(StoryFault f) throws StoryFault {
            if (f.place == NONE) {
                f.routine = which;
                f.place = place;
                told[4]++;
                if (told[4] == 25) {
                    throw new Spent();
                }
            }
            for (int[] g : routine.guards) {
                if (g[0] <= place && place < g[1] && (g[2] == 0 || g[2] == f.code) && hasOp(g[3])) {
                    told[5]++;
                    pile.clear();
                    pile.add(f.number);
                    pile.add((long) f.code);
                    place = g[3];
                    return;
                }
            }
            if (!canBegin()) {
                throw f;
            }
            begin();
            faultAside = f;
            place = next;
        }

        private boolean canBegin() {
            return !lastBegun && hasOp(routine.last);
        }

        private void begin() {
            told[6]++;
            lastBegun = true;
            pile.clear();
            next = routine.last;
        }

        private void lay(long x) throws StoryFault {
            if (pile.size() == 8) {
                throw new StoryFault(8, 0);
            }
            pile.add(x);
        }

        private long[] take(int n) throws StoryFault {
            if (pile.size() < n) {
                throw new StoryFault(8, 0);
            }
            long[] taken = new long[n];
            for (int i = n - 1; i >= 0; i--) {
                taken[i] = pile.remove(pile.size() - 1);
            }
            return taken;
        }

        private void step(int[] op) throws StoryFault {
            next = place + 1;
            int a = op[1];
            int b = op[2];
            if (op[0] <= 11) {
                reckon(op[0], a);
            } else if (op[0] <= 18 || op[0] == 29) {
                remember(op[0], a, b);
            } else if (op[0] == 19) {
                call(a, b);
            } else if (op[0] <= 22) {
                end(op[0]);
            } else if (op[0] <= 25) {
                handle(op[0], a);
            } else if (op[0] == 26) {
                long x = take(1)[0];
                if (output.size() < 60) {
                    output.add(x);
                }
            } else if (op[0] == 27) {
                if (kept.size() == 3 || keepings == 6) {
                    throw new StoryFault(7, 0);
                }
                lay(keep());
            } else {
                lay(bringBack());
            }
        }

        private void reckon(int op, int a) throws StoryFault {
            if (op == 0) {
                lay(a);
            } else if (op == 1) {
                lay(locals[a]);
            } else if (op == 2) {
                locals[a] = take(1)[0];
            } else if (op == 10) {
                next = a;
            } else if (op == 11) {
                if (take(1)[0] == 0) {
                    next = a;
                }
            } else {
                long[] t = take(2);
                try {
                    switch (op) {
                        case 3:
                            lay(t[0] + t[1]);
                            break;
                        case 4:
                            lay(t[0] - t[1]);
                            break;
                        case 5:
                            lay(t[0] * t[1]);
                            break;
                        case 6:
                            lay(t[0] / t[1]);
                            break;
                        case 7:
                            lay(t[0] % t[1]);
                            break;
                        case 8:
                            lay(t[0] < t[1] ? 1 : 0);
                            break;
                        default:
                            lay(t[0] == t[1] ? 1 : 0);
                            break;
                    }
                } catch (ArithmeticException e) {
                    throw new StoryFault(6, 0);
                }
            }
        }

        private int index(long i) {
            return i < 0 ? -1 : (int) Math.min(i, 1000);
        }

        private void remember(int op, int a, int b) throws StoryFault {
            boolean two = op == 13 || op == 18;
            long[] t = take(two ? 2 : op == 14 || op == 16 || op == 29 ? 0 : 1);
            try {
                if (op == 12 || op == 13) {
                    Object row = Array.newInstance(LANES[b], 0).getClass().cast(rows[a]);
                    if (op == 12) {
                        lay(asNumber(Array.get(row, index(t[0]))));
                    } else {
                        Array.set(row, index(t[0]), as(b, t[1]));
                    }
                } else if (op == 14) {
                    lay(Array.getLength(rows[a]));
                } else if (op == 15) {
                    if (t[0] > 12) {
                        throw new StoryFault(7, 0);
                    }
                    rows[a] = Array.newInstance(LANES[b], index(t[0]));
                } else if (op == 16) {
                    rows[a] = null;
                } else if (op == 17) {
                    lay(asNumber(ask(rows[a], index(t[0]), b)));
                } else if (op == 18) {
                    putAs(rows[a], index(t[0]), b, t[1]);
                } else {
                    rows[a] = rows[b];
                }
            } catch (NullPointerException e) {
                throw new StoryFault(1, 0);
            } catch (ArrayIndexOutOfBoundsException e) {
                throw new StoryFault(2, 0);
            } catch (ClassCastException e) {
                throw new StoryFault(3, 0);
            } catch (NegativeArraySizeException e) {
                throw new StoryFault(5, 0);
            } catch (IllegalArgumentException e) {
                throw new StoryFault(7, 0);
            }
        }

        private void call(int a, int b) throws StoryFault {
            if (b == 0 && pile.size() == 8) {
                throw new StoryFault(8, 0);
            }
            long[] given = take(b);
            if (a >= routines.size() || routines.get(a).ops.isEmpty()) {
                throw new StoryFault(1, 0);
            }
            if (b > routines.get(a).locals) {
                throw new StoryFault(7, 0);
            }
            if (depth == 12) {
                throw new StoryFault(9, 0);
            }
            lay(new Open(a, given, depth + 1).play());
        }

        private void end(int op) throws StoryFault {
            if (op == 21) {
                throw new StoryFault(11, take(1)[0]);
            }
            if (op == 20) {
                long x = take(1)[0];
                if (canBegin()) {
                    begin();
                    faultAside = null;
                    aside = x;
                } else {
                    ended = true;
                    answer = x;
                }
                return;
            }
            if (!lastBegun) {
                throw new StoryFault(10, 0);
            }
            if (faultAside != null) {
                throw faultAside;
            }
            ended = true;
            answer = aside;
        }

        private Box at(long t) throws StoryFault {
            if (t < 0 || t >= things.size()) {
                throw new StoryFault(1, 0);
            }
            return things.get((int) t);
        }

        private void handle(int op, int a) throws StoryFault {
            try {
                if (op == 23) {
                    boolean withNumber = a == 1 || a == 6 || a == 7 || a == 8;
                    long[] t = take(withNumber ? 2 : 1);
                    lay(send(at(t[0]), a, withNumber ? (int) t[1] : 0));
                } else if (op == 24) {
                    long[] t = take(3);
                    Box s = at(t[0]);
                    Box laid = t[2] == -1 ? null : at(t[2]);
                    s.shelf[index(t[1])] = laid;
                } else {
                    long[] t = take(2);
                    lay(things.indexOf(at(t[0]).shelf[index(t[1])]));
                }
            } catch (ArrayIndexOutOfBoundsException e) {
                throw new StoryFault(2, 0);
            } catch (ClassCastException e) {
                throw new StoryFault(3, 0);
            } catch (ArrayStoreException e) {
                throw new StoryFault(4, 0);
            } catch (Overload e) {
                throw new StoryFault(11, 50);
            } catch (UnsupportedOperationException e) {
                throw new StoryFault(12, 0);
            }
        }

        private int send(Box b, int message, int n) {
            int was;
            switch (message) {
                case 0:
                    return b.weigh();
                case 1:
                    return b.take(n);
                case 2:
                    return ((Lamp) b).glow();
                case 3:
                    return b.open();
                case 4:
                    return b.mark;
                case 5:
                    return ((Crate) b).mark;
                case 6:
                    was = b.mark;
                    b.mark = n;
                    return was;
                case 7:
                    was = ((Crate) b).mark;
                    ((Crate) b).mark = n;
                    return was;
                default:
                    was = ((Lantern) b).mark;
                    ((Lantern) b).mark = n;
                    return was;
            }
        }
    }
}
