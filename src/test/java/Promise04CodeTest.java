import java.util.function.Consumer;

/** code: one INSTRUCTION more of the PROGRAM that is put together, up to 40. */
final class Promise04CodeTest {
    private static final long[] FAR = {Long.MIN_VALUE, -(1L << 32), Integer.MIN_VALUE, -1, 41, Integer.MAX_VALUE,
        1L << 32, (1L << 32) + 3, Long.MAX_VALUE};

    public static void main(String[] args) {
        Due.test("One more INSTRUCTION of the PROGRAM that is put together: how many", Promise04CodeTest::oneMore);
        Due.test("IllegalArgumentException if op is not 0 to 18", Promise04CodeTest::ops);
        Due.test("or a not 0 to 3 for 4 and 5", Promise04CodeTest::cells);
        Due.test("0 to 40 for 15 and 16", Promise04CodeTest::leaps);
        Due.test("(of all others but 0 it has no meaning)", Promise04CodeTest::noMeaning);
        Due.test("IllegalStateException if there are 40", Promise04CodeTest::full);
        Due.test("IllegalStateException if THE RUN goes on", Promise04CodeTest::running);
        Due.test("IllegalArgumentException before IllegalStateException", Promise04CodeTest::order);
        Due.end();
    }

    private static void oneMore() {
        ShuffleMill mill = new ShuffleMill();
        for (int i = 1; i <= 40; i++) {
            Due.is("code", i, mill.code(i % 19, 0));
            Due.is("count", i, mill.count(2));
        }
        mill.program(0, 0);
        Due.is("of the next one", 1, mill.code(0, 0));
    }

    private static void ops() {
        ShuffleMill mill = new ShuffleMill();
        for (int op = 0; op <= 18; op++) {
            Due.is("op " + op, op + 1, mill.code(op, 0));
        }
        for (int op : new int[] {-1, 19, Integer.MIN_VALUE, Integer.MAX_VALUE}) {
            for (var state : Twins.ALL) {
                Twins.badArgument("op " + op, state, twin -> twin.code(op, 0));
            }
        }
    }

    private static void cells() {
        for (int op = 4; op <= 5; op++) {
            int cell = op;
            ShuffleMill mill = new ShuffleMill();
            for (int a = 0; a <= 3; a++) {
                Due.is(op + " " + a, a + 1, mill.code(op, a));
            }
            Twins.badArgument(op + " 4", Twins::rest, twin -> twin.code(cell, 4));
            for (long a : FAR) {
                Twins.badArgument(op + " " + a, Twins::rest, twin -> twin.code(cell, a));
            }
        }
    }

    private static void leaps() {
        for (int op = 15; op <= 16; op++) {
            int leap = op;
            for (int a = 0; a <= 40; a++) {
                Due.is(op + " " + a, 1, new ShuffleMill().code(op, a));
            }
            for (long a : FAR) {
                Twins.badArgument(op + " " + a, Twins::rest, twin -> twin.code(leap, a));
            }
        }
    }

    private static void noMeaning() {
        ShuffleMill mill = new ShuffleMill();
        int length = 0;
        for (int op = 0; op <= 18; op++) {
            if (op != 4 && op != 5 && op != 15 && op != 16) {
                length += 2;
                Due.is("the least for " + op, length - 1, mill.code(op, Long.MIN_VALUE));
                Due.is("the most for " + op, length, mill.code(op, Long.MAX_VALUE));
            }
        }
        for (long a : FAR) {
            Calls.made("with " + a, Due.MAP, 1, Calls.code(1, a, 2, a, 3, a, 6, a, 12, a, 13, a, 14, a, 17, a, 18, a),
                    5, 3);
            Calls.top("with " + a, 1, 0, 8, 0, 2, 7, a, 0, 2, 8, a, 0, 3, 9, a, 0, 4, 11, a, 0, 2, 10, a);
        }
    }

    private static void fill(ShuffleMill mill, int many) {
        for (int i = 0; i < many; i += 2) {
            mill.code(1, 0);
            mill.code(i < many - 2 ? 13 : 18, 0);
        }
    }

    private static void full() {
        ShuffleMill mill = new ShuffleMill();
        fill(mill, 38);
        Due.is("the 39th", 39, mill.code(18, 0));
        Due.is("the 40th", 40, mill.code(18, 0));
        for (int op = 0; op <= 18; op++) {
            int at = op;
            Due.badState("the 41st", () -> mill.code(at, 0));
        }
        Due.is("40 are put together", 40, mill.count(2));
        Due.is("program", 40, mill.program(7, 2));
        Twins.badState("the 41st", twin -> {
            twin.record(0, 1, 1);
            fill(twin, 40);
        }, twin -> twin.code(0, 0));
    }

    private static void running() {
        for (int op = 0; op <= 18; op++) {
            int at = op;
            Twins.badState("op " + op, Twins::running, twin -> twin.code(at, 0));
        }
        ShuffleMill mill = new ShuffleMill();
        mill.begin();
        Due.badState("in THE RUN", () -> mill.code(0, 0));
        mill.finish();
        Due.is("behind it", 1, mill.code(0, 0));
    }

    private static void order() {
        Consumer<ShuffleMill> full = twin -> {
            twin.record(0, 1, 1);
            fill(twin, 40);
        };
        Twins.badArgument("19 as the 41st", full, twin -> twin.code(19, 0));
        Twins.badArgument("4 4 as the 41st", full, twin -> twin.code(4, 4));
        Twins.badArgument("15 41 as the 41st", full, twin -> twin.code(15, 41));
        Twins.badArgument("19 in THE RUN", Twins::running, twin -> twin.code(19, 0));
        Twins.badArgument("5 -1 in THE RUN", Twins::running, twin -> twin.code(5, -1));
        Twins.badArgument("16 -1 in THE RUN", Twins::running, twin -> twin.code(16, -1));
    }
}
