/** Promises 1 to 7: a new object, row, miss, share, put, item, about. */
public final class MemoryTest {
    private static final int BAD = Check.BAD, NONE = Check.NONE;
    private static final Check c = new Check();

    public static void main(String[] args) {
        newObject();
        row();
        miss();
        share();
        put();
        item();
        about();
        manyRows();
        c.end();
    }

    private static void newObject() {
        StoryClasses x = new StoryClasses();
        for (int r = 0; r < 12; r++) {
            c.due("1 about(r, 0)", x.about(r, 0), NONE);
            c.due("1 about(r, 1)", x.about(r, 1), NONE);
            c.due("1 about(r, 2)", x.about(r, 2), 0);
        }
        for (int what = 0; what < 4; what++) {
            c.due("1 count(what)", x.count(what, 0), 0);
        }
        for (int what = 0; what < 8; what++) {
            c.due("1 told(what)", x.told(what), what == 1 || what == 2 ? NONE : 0);
        }
        c.due("1 result", x.result(), 0);
        c.due("1 number", x.number(), 0);
        c.due("1 output", x.output(0), 0);
        c.due("1 of", x.of(0, 0), 0);
        c.due("1 run", x.run(0, 0, 0), BAD);
        c.due("1 forget", x.forget(), 0);
    }

    private static void row() {
        StoryClasses x = new StoryClasses();
        for (int lane = 0; lane < 8; lane++) {
            c.due("2 row", x.row(lane, lane, 12 - lane), 12 - lane);
            c.due("2 size", x.about(lane, 0), 12 - lane);
            c.due("2 lane", x.about(lane, 1), lane);
        }
        c.due("2 row of none", x.row(11, 4, 0), 0);
        c.due("2 size", x.about(11, 0), 0);
        c.due("2 r too low", x.row(-1, 4, 1), BAD);
        c.due("2 r too high", x.row(12, 4, 1), BAD);
        c.due("2 lane too low", x.row(0, -1, 1), BAD);
        c.due("2 lane too high", x.row(0, 8, 1), BAD);
        c.due("2 bad before size", x.row(0, 8, -1), BAD);
        c.due("2 SIZE", x.row(0, 4, -1), -15);
        c.due("2 SIZE", x.row(0, 4, Integer.MIN_VALUE), -15);
        c.due("2 ARGUMENT", x.row(0, 4, 13), -17);
        c.due("2 ARGUMENT", x.row(0, 4, Integer.MAX_VALUE), -17);
        c.due("2 refused changes nothing", x.about(0, 1), 0);
        for (int i = 0; i < 12; i++) {
            c.due("2 put", x.put(0, i, 1), 1);
        }
        c.due("2 new one", x.row(0, 0, 12), 12);
        for (int i = 0; i < 12; i++) {
            c.due("2 its items are 0", x.item(0, i), 0);
        }
    }

    private static void miss() {
        StoryClasses x = new StoryClasses();
        c.due("3 missing", x.miss(3), 0);
        x.row(3, 5, 2);
        x.share(4, 3);
        c.due("3 there", x.miss(3), 1);
        c.due("3 then missing", x.about(3, 0), NONE);
        c.due("3 again", x.miss(3), 0);
        c.due("3 the other place has it", x.about(4, 0), 2);
        c.due("3 low", x.miss(-1), BAD);
        c.due("3 high", x.miss(12), BAD);
    }

    private static void share() {
        StoryClasses x = new StoryClasses();
        c.due("4 both missing", x.share(0, 1), 0);
        x.row(1, 4, 3);
        c.due("4 itself", x.share(1, 1), 0);
        c.due("4 share", x.share(0, 1), 1);
        c.due("4 it was", x.share(0, 1), 0);
        c.due("4 it was", x.share(1, 0), 0);
        x.put(1, 2, 9);
        c.due("4 the same one", x.item(0, 2), 9);
        x.row(1, 4, 3);
        c.due("4 the old one stays", x.item(0, 2), 9);
        c.due("4 the new one is new", x.item(1, 2), 0);
        c.due("4 alike but not the same", x.share(1, 0), 1);
        c.due("4 of a missing one", x.share(1, 7), 1);
        c.due("4 then missing", x.about(1, 0), NONE);
        c.due("4 low", x.share(-1, 0), BAD);
        c.due("4 high", x.share(12, 0), BAD);
        c.due("4 low", x.share(0, -1), BAD);
        c.due("4 high", x.share(0, 12), BAD);
    }

    private static void put() {
        StoryClasses x = new StoryClasses();
        c.due("5 NOTHING", x.put(0, 0, 1), -11);
        x.row(0, 5, 2);
        c.due("5 INDEX", x.put(0, 2, 1), -12);
        c.due("5 INDEX", x.put(0, -1, 1), -12);
        c.due("5 INDEX", x.put(0, Integer.MIN_VALUE, 1), -12);
        c.due("5 low", x.put(-1, 0, 1), BAD);
        c.due("5 high", x.put(12, 0, 1), BAD);
        c.due("5 put", x.put(0, 1, Long.MIN_VALUE), 1);
        c.due("5 it is", x.item(0, 1), Long.MIN_VALUE);
        c.due("5 the other is not", x.item(0, 0), 0);
        x.row(1, 4, 0);
        c.due("5 INDEX of none", x.put(1, 0, 1), -12);
    }

    private static void item() {
        StoryClasses x = new StoryClasses();
        c.due("6 missing", x.item(0, 0), 0);
        long[] given = {0, 1, 2, -1, 127, 128, 255, 32768, 65535, 65536, 2147483648L, 16777217L, 33554435L,
            9007199254740993L, -9007199254740995L, Long.MAX_VALUE, Long.MIN_VALUE, -3};
        for (int lane = 0; lane < 8; lane++) {
            x.row(lane, lane, 1);
            for (long v : given) {
                c.due("6 put", x.put(lane, 0, v), 1);
                c.due("6 lane " + lane + " of " + v, x.item(lane, 0), asLane(lane, v));
            }
        }
        c.due("6 int", x.item(4, 0), -3);
        c.due("6 sign", x.item(3, 0), 65533);
        x.put(6, 0, Long.MAX_VALUE);
        c.due("6 float at most", x.item(6, 0), Long.MAX_VALUE);
        x.put(6, 0, 16777219L);
        c.due("6 float, half to even", x.item(6, 0), 16777220L);
        c.due("6 low r", x.item(-1, 0), 0);
        c.due("6 high r", x.item(12, 0), 0);
        c.due("6 low i", x.item(4, -1), 0);
        c.due("6 high i", x.item(4, 1), 0);
    }

    private static long asLane(int lane, long v) {
        switch (lane) {
            case 0:
                return v % 2 != 0 ? 1 : 0;
            case 1:
                return Long.valueOf(v).byteValue();
            case 2:
                return Long.valueOf(v).shortValue();
            case 3:
                return Math.floorMod(v, 65536L);
            case 4:
                return Long.valueOf(v).intValue();
            case 5:
                return v;
            case 6:
                return toLong(new java.math.BigDecimal(Long.valueOf(v).floatValue()));
            default:
                return toLong(new java.math.BigDecimal(Long.valueOf(v).doubleValue()));
        }
    }

    private static long toLong(java.math.BigDecimal exact) {
        return exact.toBigInteger().min(java.math.BigInteger.valueOf(Long.MAX_VALUE)).longValueExact();
    }

    private static void about() {
        StoryClasses x = new StoryClasses();
        x.row(2, 4, 5);
        x.row(5, 4, 5);
        x.share(7, 5);
        x.share(9, 2);
        c.due("7 least same", x.about(9, 2), 2);
        c.due("7 least same", x.about(2, 2), 2);
        c.due("7 least same", x.about(7, 2), 5);
        c.due("7 least missing", x.about(11, 2), 0);
        x.row(0, 1, 1);
        c.due("7 least missing", x.about(11, 2), 1);
        c.due("7 low what", x.about(0, -1), BAD);
        c.due("7 high what", x.about(0, 3), BAD);
        c.due("7 low r", x.about(-1, 0), BAD);
        c.due("7 high r", x.about(12, 2), BAD);
    }

    /** Bodies are used again: that must not show. */
    private static void manyRows() {
        StoryClasses x = new StoryClasses();
        for (int round = 0; round < 8; round++) {
            for (int r = 0; r < 12; r++) {
                c.due("2 row", x.row(r, 5, 12), 12);
                c.due("5 put", x.put(r, 11, round * 100 + r), 1);
            }
            for (int r = 0; r < 12; r++) {
                c.due("6 item", x.item(r, 11), round * 100 + r);
                c.due("7 its own", x.about(r, 2), r);
            }
        }
    }
}
