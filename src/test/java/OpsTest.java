/** The ops 0 to 18, 26 and 29: numbers, places, memory, the output; and the faults of the pile. */
public final class OpsTest {
    private static final int NOTHING = 1, INDEX = 2, CAST = 3, SIZE = 5, ZERO = 6, ARGUMENT = 7, PILE = 8, BEHIND = 10;
    private static final long MIN = Long.MIN_VALUE, MAX = Long.MAX_VALUE;
    private static final Check c = new Check();

    public static void main(String[] args) {
        reckoning();
        locals();
        places();
        held();
        rows();
        asked();
        putInto();
        tooFew();
        pileIsFull();
        output();
        c.end();
    }

    private static void reckons(int op, long x, long y, long want) {
        StoryClasses s = new StoryClasses();
        int r = Check.routine(s, 2, Check.op(1, 0), Check.op(1, 1), Check.op(op), Check.op(20));
        c.due("op " + op + " run", s.run(r, x, y), 0);
        c.due("op " + op + " of " + x + ", " + y, s.result(), want);
    }

    private static void reckoning() {
        reckons(3, 5, 7, 12);
        reckons(3, MAX, 1, MIN);
        reckons(4, 5, 7, -2);
        reckons(4, MIN, 1, MAX);
        reckons(5, -5, 7, -35);
        reckons(5, MAX, 2, -2);
        reckons(6, -7, 2, -3);
        reckons(6, MIN, -1, MIN);
        reckons(7, -7, 2, -1);
        reckons(7, MIN, -1, 0);
        reckons(8, 1, 2, 1);
        reckons(8, 2, 2, 0);
        reckons(8, 3, 2, 0);
        reckons(8, MIN, MAX, 1);
        reckons(9, 2, 2, 1);
        reckons(9, 1L << 32, 0, 0);
        StoryClasses x = new StoryClasses();
        c.faults("6 ZERO", x, ZERO, 2, Check.op(0, 1), Check.op(0, 0), Check.op(6));
        c.faults("7 ZERO", x, ZERO, 2, Check.op(0, 1), Check.op(0, 0), Check.op(7));
        c.returns("0 negative", x, -9, Check.op(0, -9), Check.op(20));
    }

    private static void locals() {
        StoryClasses x = new StoryClasses();
        int r = Check.routine(x, 3, Check.op(1, 2), Check.op(26), Check.op(1, 1), Check.op(2, 2), Check.op(1, 0),
            Check.op(2, 1), Check.op(1, 2), Check.op(1, 1), Check.op(4), Check.op(20));
        c.due("1, 2", x.run(r, 3, 10), 0);
        c.due("1, 2", x.result(), 7);
        c.due("other locals are 0", x.output(0), 0);
        int one = Check.routine(x, 1, Check.op(1, 0), Check.op(20));
        c.due("one local", x.run(one, 4, 5), 0);
        c.due("one local", x.result(), 4);
    }

    private static void places() {
        StoryClasses x = new StoryClasses();
        c.returns("10", x, 2, Check.op(10, 3), Check.op(0, 1), Check.op(20), Check.op(0, 2), Check.op(20));
        c.returns("11 of 0", x, 2, Check.op(0, 0), Check.op(11, 4), Check.op(0, 1), Check.op(20), Check.op(0, 2),
            Check.op(20));
        c.returns("11 of 5", x, 1, Check.op(0, 5), Check.op(11, 4), Check.op(0, 1), Check.op(20), Check.op(0, 2),
            Check.op(20));
        c.faults("10 BEHIND", x, BEHIND, 0, Check.op(10, 1));
        c.faults("11 BEHIND", x, BEHIND, 1, Check.op(0, 0), Check.op(11, 29), Check.op(20));
        c.faults("next BEHIND", x, BEHIND, 1, Check.op(0, 0), Check.op(26));
        c.due("what it did stays", x.count(3, 0), 1);
        c.due("BEHIND is no step", x.told(3), 2);
    }

    private static void held() {
        StoryClasses x = new StoryClasses();
        x.row(3, 2, 4);
        x.put(3, 1, -7);
        c.returns("12", x, -7, Check.op(0, 1), Check.op(12, 3, 2), Check.op(20));
        c.faults("12 NOTHING", x, NOTHING, 1, Check.op(0, 9), Check.op(12, 4, 2));
        c.faults("12 CAST before INDEX", x, CAST, 1, Check.op(0, 9), Check.op(12, 3, 3));
        c.faults("12 INDEX", x, INDEX, 1, Check.op(0, 4), Check.op(12, 3, 2));
        c.faults("12 INDEX", x, INDEX, 1, Check.op(0, -1), Check.op(12, 3, 2));
        c.returns("13", x, 1, Check.op(0, 2), Check.op(0, 65535), Check.op(13, 3, 2), Check.op(0, 1), Check.op(20));
        c.due("13 lowest bits", x.item(3, 2), -1);
        c.faults("13 NOTHING", x, NOTHING, 2, Check.op(0, 1), Check.op(0, 5), Check.op(13, 4, 2));
        c.faults("13 CAST", x, CAST, 2, Check.op(0, 9), Check.op(0, 5), Check.op(13, 3, 1));
        c.faults("13 INDEX", x, INDEX, 2, Check.op(0, 4), Check.op(0, 5), Check.op(13, 3, 2));
        int r = Check.routine(x, 1, Check.op(1, 0), Check.op(12, 3, 2));
        c.due("12 an index is a long", x.run(r, (1L << 32) + 1, 0), 1);
        c.due("12 an index is a long", x.told(0), INDEX);
    }

    private static void rows() {
        StoryClasses x = new StoryClasses();
        c.faults("14 NOTHING", x, NOTHING, 0, Check.op(14, 0));
        c.returns("15, 14", x, 12, Check.op(0, 12), Check.op(15, 0, 6), Check.op(14, 0), Check.op(20));
        c.due("15 lane", x.about(0, 1), 6);
        c.faults("15 SIZE", x, SIZE, 1, Check.op(0, -1), Check.op(15, 0, 1));
        c.faults("15 ARGUMENT", x, ARGUMENT, 1, Check.op(0, 13), Check.op(15, 0, 1));
        c.due("15 refused", x.about(0, 1), 6);
        x.put(0, 3, 8);
        c.faults("29", x, BEHIND, 0, Check.op(29, 5, 0));
        c.due("29 the same one", x.about(5, 2), 0);
        c.faults("16", x, BEHIND, 0, Check.op(16, 0));
        c.due("16", x.about(0, 0), -1);
        c.due("16 the other stays", x.item(5, 3), 8);
        c.faults("29 of a missing one", x, BEHIND, 0, Check.op(29, 5, 0));
        c.due("29 missing", x.about(5, 0), -1);
        int r = Check.routine(x, 1, Check.op(1, 0), Check.op(15, 3, 2));
        c.due("15 n is a long", x.run(r, 1L << 32, 0), 1);
        c.due("15 n is a long", x.told(0), ARGUMENT);
        c.due("15 n is a long", x.run(r, MIN, 0), 1);
        c.due("15 n is a long", x.told(0), SIZE);
    }

    /** Which lanes go into which, row by row of the document. */
    private static boolean goesInto(int from, int to) {
        String[] into = {"", "24567", "4567", "4567", "567", "67", "7", ""};
        return into[from].indexOf('0' + to) >= 0;
    }

    private static void asked() {
        long[] asBoolean = {1, 1, 1, 1, 1, 1, 1, 1};
        for (int lane = 0; lane < 8; lane++) {
            for (int b = 0; b < 8; b++) {
                StoryClasses x = new StoryClasses();
                x.row(2, lane, 2);
                x.put(2, 1, 1);
                int[][] ops = {Check.op(0, 1), Check.op(17, 2, b), Check.op(20)};
                if (lane == b || goesInto(lane, b)) {
                    c.returns("17 " + lane + " as " + b, x, asBoolean[b], ops);
                } else {
                    c.faults("17 " + lane + " as " + b, x, ARGUMENT, 1, ops);
                }
                c.faults("17 INDEX", x, INDEX, 1, Check.op(0, 2), Check.op(17, 2, b));
                c.faults("17 NOTHING", x, NOTHING, 1, Check.op(0, 2), Check.op(17, 3, b));
            }
        }
        StoryClasses x = new StoryClasses();
        x.row(0, 5, 1);
        x.put(0, 0, 9007199254740993L);
        c.returns("17 long as double", x, 9007199254740992L, Check.op(0, 0), Check.op(17, 0, 7), Check.op(20));
        c.returns("17 long as float", x, 9007199254740992L, Check.op(0, 0), Check.op(17, 0, 6), Check.op(20));
        x.put(0, 0, MAX);
        c.returns("17 at most", x, MAX, Check.op(0, 0), Check.op(17, 0, 6), Check.op(20));
        x.row(0, 4, 1);
        x.put(0, 0, 16777217);
        c.returns("17 int as float", x, 16777216, Check.op(0, 0), Check.op(17, 0, 6), Check.op(20));
        c.returns("17 int as double", x, 16777217, Check.op(0, 0), Check.op(17, 0, 7), Check.op(20));
        x.row(0, 1, 1);
        x.put(0, 0, 200);
        c.returns("17 byte as short", x, -56, Check.op(0, 0), Check.op(17, 0, 2), Check.op(20));
        x.row(0, 3, 1);
        x.put(0, 0, -1);
        c.returns("17 sign as int", x, 65535, Check.op(0, 0), Check.op(17, 0, 4), Check.op(20));
    }

    private static void putInto() {
        for (int lane = 0; lane < 8; lane++) {
            for (int b = 0; b < 8; b++) {
                StoryClasses x = new StoryClasses();
                x.row(2, lane, 2);
                int[][] ops = {Check.op(0, 1), Check.op(0, 3), Check.op(18, 2, b)};
                boolean goes = lane == b || goesInto(b, lane);
                c.faults("18 " + b + " into " + lane, x, goes ? BEHIND : ARGUMENT, 2, ops);
                c.due("18 the item", x.item(2, 1), !goes ? 0 : lane == 0 ? 1 : 3);
                c.faults("18 INDEX", x, INDEX, 2, Check.op(0, 2), Check.op(0, 3), Check.op(18, 2, b));
                c.faults("18 NOTHING", x, NOTHING, 2, Check.op(0, 2), Check.op(0, 3), Check.op(18, 3, b));
            }
        }
        puts(4, 1, 300, 44);
        puts(5, 3, -1, 65535);
        puts(7, 6, 16777217, 16777216);
        puts(6, 5, 16777217, 16777216);
        puts(7, 5, MAX, MAX);
        puts(7, 4, 1L << 32, 0);
        puts(5, 2, 32768, -32768);
        puts(0, 0, 7, 1);
    }

    private static void puts(int lane, int b, long v, long want) {
        StoryClasses x = new StoryClasses();
        x.row(0, lane, 1);
        int r = Check.routine(x, 1, Check.op(0, 0), Check.op(1, 0), Check.op(18, 0, b), Check.op(0, 0), Check.op(20));
        c.due("18 run", x.run(r, v, 0), 0);
        c.due("18 " + v + " as " + b + " into " + lane, x.item(0, 0), want);
    }

    private static void tooFew() {
        int[] takes = {0, 0, 1, 2, 2, 2, 2, 2, 2, 2, 0, 1, 1, 2, 0, 1, 0, 1, 2, 3, 1, 1, 0, 1, 3, 2, 1, 0, 0, 0};
        for (int op = 0; op < 30; op++) {
            for (int have = 0; have < takes[op]; have++) {
                StoryClasses x = new StoryClasses();
                int r = x.routine(1);
                for (int i = 0; i < have; i++) {
                    x.op(r, 0, 1, 0);
                }
                x.op(r, op, 0, op == 19 ? 3 : 0);
                c.due(op + " too few", x.run(r, 0, 0), 1);
                c.due(op + " PILE", x.told(0), PILE);
                c.due(op + " place", x.told(2), have);
            }
        }
    }

    private static void pileIsFull() {
        int[][] eight = new int[9][];
        for (int i = 0; i < 8; i++) {
            eight[i] = Check.op(0, i);
        }
        int[][] laying = {Check.op(0, 1), Check.op(1, 0), Check.op(14, 0), Check.op(28), Check.op(27),
            Check.op(19, 1, 0)};
        for (int[] op : laying) {
            StoryClasses x = new StoryClasses();
            x.row(0, 4, 1);
            eight[8] = op;
            c.faults(op[0] + " onto 8", x, PILE, 8, eight);
            c.due("27 stays kept", x.count(2, 0), op[0] == 27 ? 1 : 0);
        }
        StoryClasses x = new StoryClasses();
        eight[8] = Check.op(14, 0);
        c.faults("14 NOTHING before PILE", x, NOTHING, 8, eight);
        eight[8] = Check.op(3);
        c.faults("3 takes first", x, BEHIND, 8, eight);
        x.row(1, 4, 8);
        eight[8] = Check.op(12, 1, 4);
        c.faults("12 takes first", x, BEHIND, 8, eight);
        eight[8] = Check.op(17, 1, 4);
        c.faults("17 takes first", x, BEHIND, 8, eight);
        eight[8] = Check.op(27);
        int keeps = Check.routine(x, 1, eight);
        for (int i = 1; i <= 3; i++) {
            x.run(keeps, 0, 0);
            c.due("27 what it did stays", x.count(2, 0), i);
            c.due("27 PILE", x.told(0), PILE);
        }
        x.run(keeps, 0, 0);
        c.due("27 ARGUMENT before PILE", x.told(0), ARGUMENT);
        x.row(0, 4, 7);
        eight[8] = Check.op(28);
        c.faults("28 PILE", x, PILE, 8, eight);
        c.due("28 what it did stays", x.about(0, 0), -1);
        c.due("28 it went", x.count(2, 0), 2);
    }

    private static void output() {
        StoryClasses x = new StoryClasses();
        int r = Check.routine(x, 2, Check.op(1, 0), Check.op(26), Check.op(1, 0), Check.op(0, 1), Check.op(3),
            Check.op(2, 0), Check.op(1, 0), Check.op(1, 1), Check.op(9), Check.op(11, 0), Check.op(0, 0), Check.op(20));
        c.due("26", x.run(r, 100, 103), 0);
        c.due("18 how many", x.count(3, 0), 3);
        c.due("18 output", x.output(0), 100);
        c.due("18 output", x.output(2), 102);
        c.due("18 none such", x.output(3), 0);
        c.due("18 none such", x.output(-1), 0);
        int s = Check.routine(x, 1, Check.op(1, 0), Check.op(26), Check.op(1, 0), Check.op(26), Check.op(10, 0));
        c.due("26 many", x.run(s, 5, 0), 2);
        c.due("18 60, others are lost", x.count(3, 0), 60);
        c.due("18 output", x.output(59), 5);
        c.due("18 none such", x.output(60), 0);
        c.due("14 BAD changes nothing", x.run(9, 0, 0), Check.BAD);
        c.due("18 stays", x.count(3, 0), 60);
        c.due("14 empty as it begins", x.run(r, 7, 8), 0);
        c.due("18 how many", x.count(3, 0), 1);
        c.due("18 output", x.output(0), 7);
        c.due("18 none such", x.output(1), 0);
    }
}
