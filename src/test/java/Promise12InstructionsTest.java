/** INSTRUCTIONS one by one, and each TRAP with the last thing before it that is none. */
final class Promise12InstructionsTest {
    private static final long MAX = Long.MAX_VALUE;
    private static final long MIN = Long.MIN_VALUE;

    public static void main(String[] args) {
        stackAndCells();
        arithmetic();
        comparisons();
        goingOn();
        valuesOfMap();
        valuesOfReduce();
        stackTraps();
        emitTraps();
        stepTraps();
        Due.end();
    }

    /** A JOB over one RECORD, KEY 3 and VALUE 5. */
    private static ShuffleMill mill(int records) {
        ShuffleMill mill = new ShuffleMill();
        for (int i = 0; i < records; i++) {
            mill.record(0, 3, 5 + i);
        }
        Due.copyJob(mill, 0, 0, -1, 1, 1);
        return mill;
    }

    private static void made(String what, int place, int records, long[] code, long... want) {
        ShuffleMill mill = mill(records);
        Due.give(mill, 0, place, code);
        Due.is(what + ": finish", -1, Due.runAlone(mill));
        Due.file(what, mill, 1, want);
    }

    private static void trap(String what, int place, int records, long... code) {
        ShuffleMill mill = mill(records);
        mill.record(1, 8, 8);
        Due.give(mill, 0, place, code);
        Due.is(what + " is a TRAP", 0, Due.runAlone(mill));
        Due.file(what + ": the OUTPUT stays", mill, 1, 8, 8);
    }

    private static long[] join(long[]... codes) {
        int length = 0;
        for (long[] code : codes) {
            length += code.length;
        }
        long[] all = new long[length];
        int at = 0;
        for (long[] code : codes) {
            System.arraycopy(code, 0, all, at, code.length);
            at += code.length;
        }
        return all;
    }

    private static long[] times(int n, long... code) {
        long[][] all = new long[n][];
        java.util.Arrays.fill(all, code);
        return join(all);
    }

    private static void stackAndCells() {
        made("0 pushes", Due.MAP, 1, new long[] {0, MIN, 0, MAX, 17, 0}, MIN, MAX);
        made("1 the KEY", Due.MAP, 1, new long[] {1, 9, 1, -9, 17, 9}, 3, 3);
        made("CELLS are 0 at first", Due.MAP, 2, new long[] {4, 0, 4, 3, 17, 0, 0, 6, 5, 0, 0, 7, 5, 3},
                0, 0, 0, 0);
        made("5 pops, 4 pushes", Due.MAP, 1,
                new long[] {0, 10, 0, 11, 5, 1, 5, 2, 4, 1, 4, 2, 17, 0, 4, 0, 4, 3, 17, 0}, 0, 0, 11, 10);
        made("a CELL can be read again", Due.MAP, 1, new long[] {0, 9, 5, 3, 4, 3, 4, 3, 17, 0}, 9, 9);
        made("12 doubles", Due.MAP, 1, new long[] {0, 6, 12, 0, 17, 0}, 6, 6);
        made("13 drops", Due.MAP, 1, new long[] {0, 1, 0, 2, 0, 3, 13, 0, 17, 0}, 1, 2);
        made("14 changes", Due.MAP, 1, new long[] {0, 0, 0, 1, 0, 2, 14, 0, 17, 0}, 2, 1);
        made("18 ends", Due.MAP, 1, new long[] {1, 0, 2, 0, 17, 0, 18, 0, 13, 0}, 3, 5);
        made("what is left on the stack says nothing", Due.MAP, 2, new long[] {0, 1, 0, 2, 0, 3, 17, 0}, 2, 3, 2, 3);
        made("it is gone when the next call begins", Due.MAP, 14, new long[] {0, 1}, new long[0]);
        trap("what an earlier call left is not there", Due.MAP, 2, 2, 0, 0, 5, 11, 0, 16, 6, 0, 1, 18, 0, 13, 0);
    }

    private static void result(String what, int op, long lower, long top, long want) {
        made(what, Due.MAP, 1, new long[] {0, lower, 0, top, op, 0, 1, 0, 14, 0, 17, 0}, 3, want);
    }

    private static void arithmetic() {
        result("+", 6, 40, 2, 42);
        result("+ wraps", 6, MAX, 1, MIN);
        result("-", 7, 40, 2, 38);
        result("- wraps", 7, MIN, 1, MAX);
        result("*", 8, -7, 6, -42);
        result("* wraps", 8, MAX, 2, -2);
        result("/", 9, 45, 7, 6);
        result("/ is cut", 9, -45, 7, -6);
        result("/ is cut", 9, 45, -7, -6);
        result("/ wraps", 9, MIN, -1, MIN);
        result("0 /", 9, 0, 5, 0);
        trap("/ by 0", Due.MAP, 1, 0, 1, 0, 0, 9, 0);
        trap("0 / 0", Due.REDUCE, 1, 0, 0, 0, 0, 9, 0);
    }

    private static void comparisons() {
        result("less", 10, 1, 2, 1);
        result("not less", 10, 2, 2, 0);
        result("not less", 10, 3, 2, 0);
        result("the least is less", 10, MIN, MAX, 1);
        result("the most is not", 10, MAX, MIN, 0);
        result("same", 11, -5, -5, 1);
        result("not same", 11, 1, 1 + (1L << 32), 0);
    }

    private static void goingOn() {
        made("15 goes on", Due.MAP, 1, new long[] {15, 2, 13, 0, 1, 0, 2, 0, 17, 0}, 3, 5);
        made("15 goes to the end", Due.MAP, 1, new long[] {1, 0, 2, 0, 17, 0, 15, 5, 13, 0}, 3, 5);
        made("16 goes if 0", Due.MAP, 1, new long[] {0, 0, 16, 3, 13, 0, 1, 0, 2, 0, 17, 0}, 3, 5);
        made("16 does not if 1", Due.MAP, 1, new long[] {0, 1, 16, 5, 1, 0, 2, 0, 17, 0}, 3, 5);
        made("16 does not if 2^32", Due.MAP, 1, new long[] {0, 1L << 32, 16, 5, 1, 0, 2, 0, 17, 0}, 3, 5);
        made("16 pops", Due.MAP, 1, new long[] {0, 7, 0, 8, 0, 0, 16, 4, 17, 0}, 7, 8);
        made("back", Due.MAP, 1, new long[] {15, 4, 1, 0, 2, 0, 15, 5, 15, 1, 17, 0}, 3, 5);
    }

    private static void valuesOfMap() {
        made("2 as often as it likes", Due.MAP, 1, times(4, 2, 0, 2, 0, 17, 0), 5, 5, 5, 5, 5, 5, 5, 5);
        made("3 is 0", Due.MAP, 1, new long[] {3, 0, 2, 0, 13, 0, 3, 0, 17, 0}, 0, 0);
    }

    private static void valuesOfReduce() {
        made("2 the next, 3 whether", Due.REDUCE, 3,
                new long[] {2, 0, 2, 0, 17, 0, 3, 0, 2, 0, 17, 0, 3, 0, 12, 0, 17, 0}, 5, 6, 1, 7, 0, 0);
        made("not all need be taken", Due.REDUCE, 3, new long[] {1, 0, 2, 0, 17, 0}, 3, 5);
        made("3 takes none", Due.REDUCE, 1, new long[] {3, 0, 3, 0, 3, 0, 2, 0, 17, 0}, 1, 5);
        trap("2 without a next one", Due.REDUCE, 1, 2, 0, 2, 0);
        trap("2 without a next one, of COMBINE", Due.COMBINE, 2, 2, 0, 2, 0, 2, 0);
        made("2 with a next one, of COMBINE", Due.COMBINE, 2, new long[] {2, 0, 2, 0, 6, 0, 17, 0, 3, 0, 17, 0},
                3, 11, 3, 0);
        made("1 of COMBINE", Due.COMBINE, 1, new long[] {1, 0, 17, 0}, 3, 3);
        made("3 of COMBINE", Due.COMBINE, 2, new long[] {3, 0, 17, 0}, 3, 1);
    }

    private static void stackTraps() {
        made("12 on the stack", Due.MAP, 1, join(times(12, 0, 1), new long[] {17, 0}), 1, 1);
        made("12 by 12", Due.MAP, 1, join(times(11, 0, 1), new long[] {12, 0, 17, 0}), 1, 1);
        for (int op : new int[] {0, 1, 2, 3, 4, 12}) {
            trap("a 13th by " + op, Due.MAP, 1, join(times(12, 0, 1), new long[] {op, 0, 18, 0}));
        }
        trap("a 13th VALUE", Due.REDUCE, 13, times(13, 2, 0));
        for (int op : new int[] {5, 6, 7, 8, 9, 10, 11, 12, 13, 14, 16, 17}) {
            trap(op + " on an empty stack", Due.MAP, 1, op, 0, 18, 0);
            trap(op + " on an empty stack, of REDUCE", Due.REDUCE, 1, op, 0, 18, 0);
            trap(op + " on an empty stack, of COMBINE", Due.COMBINE, 1, op, 0, 18, 0);
        }
        for (int op : new int[] {6, 7, 8, 9, 10, 11, 14, 17}) {
            trap(op + " with one on the stack", Due.MAP, 1, 0, 1, op, 0, 18, 0);
        }
        made("17 of COMBINE with one", Due.COMBINE, 1, new long[] {0, 1, 17, 0}, 3, 1);
    }

    private static void emitTraps() {
        long[] emit = {1, 0, 2, 0, 17, 0};
        made("four EMITS", Due.MAP, 1, times(4, emit), 3, 5, 3, 5, 3, 5, 3, 5);
        trap("a fifth EMIT", Due.MAP, 1, times(5, emit));
        made("four EMITS of COMBINE", Due.COMBINE, 1, times(4, 0, 1, 17, 0), 3, 1, 3, 1, 3, 1, 3, 1);
        trap("a fifth EMIT of COMBINE", Due.COMBINE, 1, times(5, 0, 1, 17, 0));
        made("four EMITS of REDUCE", Due.REDUCE, 1, times(4, 1, 0, 1, 0, 17, 0), 3, 3, 3, 3, 3, 3, 3, 3);
        trap("a fifth EMIT of REDUCE", Due.REDUCE, 1, times(5, 1, 0, 1, 0, 17, 0));
    }

    private static void stepTraps() {
        // 1 INSTRUCTION, then 55 turns of 6; then 1 and 8 turns of 6: 380 in all
        long[] loops = {0, -55, 0, 1, 6, 0, 12, 0, 0, 0, 11, 0, 16, 1, 0, -8, 0, 1, 6, 0, 12, 0, 0, 0, 11, 0, 16, 8};
        for (int place : new int[] {Due.MAP, Due.COMBINE, Due.REDUCE}) {
            long[] emit = place == Due.COMBINE ? new long[] {0, 9, 17, 0} : new long[] {0, 9, 0, 9, 17, 0};
            int rest = 400 - 380 - emit.length / 2;
            long key = place == Due.COMBINE ? 3 : 9;
            long[] exact = join(loops, pads(rest, 14), emit);
            int length = exact.length / 2;
            made("400 INSTRUCTIONS and the end", place, 1, exact, key, 9);
            made("400 INSTRUCTIONS with 18", place, 1,
                    join(loops, pads(rest - 1, 14), emit, new long[] {18, 0}), key, 9);
            made("400 INSTRUCTIONS, the last goes to the end", place, 1,
                    join(loops, pads(rest - 1, 14), emit, new long[] {15, length}), key, 9);
            trap("401 INSTRUCTIONS", place, 1, join(loops, pads(rest + 1, 14), emit));
            trap("401 INSTRUCTIONS with 18", place, 1, join(exact, new long[] {18, 0}));
            trap("401 INSTRUCTIONS, the last goes to the end", place, 1, join(exact, new long[] {15, length + 1}));
            trap("no end at all", place, 1, 15, 0);
        }
    }

    /** INSTRUCTIONS that do nothing but count: each goes to the next. */
    private static long[] pads(int n, int from) {
        long[] code = new long[2 * n];
        for (int i = 0; i < n; i++) {
            code[2 * i] = 15;
            code[2 * i + 1] = from + i + 1;
        }
        return code;
    }
}
