/** Terms 1, INSTRUCTIONS: what each does to the stack and the CELLS, and where it reaches an edge. */
final class Terms1InstructionsTest {
    private static final long MAX = Long.MAX_VALUE;
    private static final long MIN = Long.MIN_VALUE;

    public static void main(String[] args) {
        Due.test("a stack (at most 12 longs)", Terms1InstructionsTest::fullStack);
        Due.test("empty when a call begins", Terms1InstructionsTest::emptyStack);
        Due.test("CELLS 0 to 3", Terms1InstructionsTest::cells);
        Due.test("CELLS (0 then)", Terms1InstructionsTest::cellsAtFirst);
        Due.test("0 A pushes A", Terms1InstructionsTest::push);
        Due.test("1 the KEY", Terms1InstructionsTest::key);
        Due.test("2 a VALUE: of MAP the RECORD's (as often as it likes)", Terms1InstructionsTest::valueOfMap);
        Due.test("2 a VALUE: of COMBINE and REDUCE the next one of the KEY's", Terms1InstructionsTest::valueOfOthers);
        Due.test("3 1 if there is a next one, else 0", Terms1InstructionsTest::more);
        Due.test("3 (of MAP 0)", Terms1InstructionsTest::moreOfMap);
        Due.test("4 A pushes CELL A", Terms1InstructionsTest::load);
        Due.test("5 A pops it", Terms1InstructionsTest::store);
        Due.test("6 +", () -> twoOnes(6, new long[][] {{40, 2, 42}, {-1, 1, 0}, {MAX, 0, MAX}}));
        Due.test("6 +, longs wrap", () -> twoOnes(6, new long[][] {{MAX, 1, MIN}, {MIN, -1, MAX}, {MAX, MAX, -2},
            {MIN, MIN, 0}}));
        Due.test("7 -, the lower one first", () -> twoOnes(7, new long[][] {{40, 2, 38}, {2, 40, -38}}));
        Due.test("7 -, longs wrap", () -> twoOnes(7, new long[][] {{MIN, 1, MAX}, {MAX, -1, MIN}, {0, MIN, MIN}}));
        Due.test("8 *", () -> twoOnes(8, new long[][] {{-7, 6, -42}, {1L << 31, 4, 1L << 33}, {MIN, 0, 0}}));
        Due.test("8 *, longs wrap", () -> twoOnes(8, new long[][] {{MAX, 2, -2}, {1L << 32, 1L << 32, 0},
            {MIN, -1, MIN}, {MAX, MAX, 1}}));
        Due.test("9 /, the lower one first", () -> twoOnes(9, new long[][] {{45, 9, 5}, {9, 45, 0}, {0, 5, 0}}));
        Due.test("9 / (cut)", () -> twoOnes(9, new long[][] {{45, 7, 6}, {-45, 7, -6}, {45, -7, -6}, {-45, -7, 6},
            {-1, 2, 0}, {1, -2, 0}, {MIN, 3, MIN / 3}}));
        Due.test("9 /, longs wrap", () -> twoOnes(9, new long[][] {{MIN, -1, MIN}, {MAX, -1, MIN + 1}, {MIN, 1, MIN}}));
        Due.test("10 1 if the lower one is less, else 0", () -> twoOnes(10, new long[][] {{1, 2, 1}, {2, 2, 0},
            {3, 2, 0}, {-1, 0, 1}, {0, -1, 0}, {MIN, MAX, 1}, {MAX, MIN, 0}, {MIN, MIN, 0}, {0, 1L << 32, 1}}));
        Due.test("11 1 if they are the same, else 0", () -> twoOnes(11, new long[][] {{5, 5, 1}, {5, -5, 0},
            {5, 6, 0}, {0, 0, 1}, {MIN, MIN, 1}, {MAX, MIN, 0}, {1, 1 + (1L << 32), 0}}));
        Due.test("the two top ones, which are popped", Terms1InstructionsTest::popped);
        Due.test("12 doubles", Terms1InstructionsTest::doubles);
        Due.test("13 drops", Terms1InstructionsTest::drops);
        Due.test("14 changes the two top ones", Terms1InstructionsTest::changes);
        Due.test("15 A goes to INSTRUCTION A", Terms1InstructionsTest::goes);
        Due.test("16 A so if 0 is popped", Terms1InstructionsTest::goesIf0);
        Due.test("17 emits: of COMBINE the KEY with what is popped", Terms1InstructionsTest::emitsOfCombine);
        Due.test("17 emits: else a KEY and (on top) a VALUE that are popped", Terms1InstructionsTest::emits);
        Due.test("18 ends", Terms1InstructionsTest::ends);
        Due.test("so does the end", Terms1InstructionsTest::theEnd);
        Due.end();
    }

    /** An INSTRUCTION on two longs, the lower one first, and what it leaves. */
    private static void twoOnes(int op, long[][] cases) {
        for (long[] c : cases) {
            Calls.top(c[0] + " and " + c[1], c[2], 0, c[0], 0, c[1], op, 0);
        }
    }

    private static void fullStack() {
        Calls.top("12 that are pushed", 12, Calls.join(Calls.times(11, 0, 1), Calls.times(10, 6, 0),
                Calls.code(0, 1, 6, 0)));
        Calls.made("12 on the stack", Due.MAP, 1, Calls.join(Calls.times(11, 0, 1), Calls.code(0, 2, 17, 0)), 1, 2);
        Calls.made("12 on the stack", Due.REDUCE, 1, Calls.join(Calls.times(11, 0, 1), Calls.code(0, 2, 17, 0)), 1, 2);
        Calls.made("12 on the stack", Due.COMBINE, 1, Calls.join(Calls.times(11, 0, 1), Calls.code(0, 2, 17, 0)),
                3, 2);
        for (int place : Calls.PLACES) {
            Calls.made("12, all of which are popped", place, 1, Calls.join(Calls.times(12, 0, 1),
                    Calls.times(12, 13, 0)));
        }
        Calls.made("12 longs are kept as they are", Due.MAP, 1, Calls.join(
                Calls.code(0, MIN, 0, MAX), Calls.times(10, 0, 1), Calls.times(10, 13, 0), Calls.code(17, 0)),
                MIN, MAX);
    }

    /** Each call leaves something; were it still there, the stack would be too full, or 11 answer 1. */
    private static void emptyStack() {
        Calls.made("one left, 14 times", Due.MAP, 14, Calls.code(0, 1));
        Calls.made("twelve left, twice", Due.MAP, 2, Calls.times(12, 0, 1));
        Calls.trap("what the call before left is not there", Due.MAP, 2,
                2, 0, 0, 5, 11, 0, 16, 6, 0, 1, 18, 0, 13, 0);
        ShuffleMill mill = new ShuffleMill();
        for (int key = 0; key < 14; key++) {
            mill.record(0, key, key);
        }
        Due.copyJob(mill, 0, 0, -1, 1, 1);
        Due.give(mill, 0, Due.COMBINE, 2, 0, 12, 0, 17, 0);
        Due.give(mill, 0, Due.REDUCE, 0, 5, 1, 0, 2, 0, 17, 0);
        Due.is("finish with COMBINE and REDUCE that leave one", -1, Due.runAlone(mill));
        Due.is("size", 14, mill.size(1));
    }

    private static void cells() {
        for (int cell = 0; cell <= 3; cell++) {
            Calls.top("CELL " + cell, 6 + cell, 0, 6 + cell, 5, cell, 4, cell);
        }
        Calls.top("four CELLS beside each other", 1234,
                0, 1, 5, 0, 0, 2, 5, 1, 0, 3, 5, 2, 0, 4, 5, 3,
                4, 0, 0, 10, 8, 0, 4, 1, 6, 0, 0, 10, 8, 0, 4, 2, 6, 0, 0, 10, 8, 0, 4, 3, 6, 0);
    }

    /** Each call sees 0, though each leaves another number. */
    private static void cellsAtFirst() {
        for (int cell = 0; cell <= 3; cell++) {
            Calls.made("CELL " + cell, Due.MAP, 2, Calls.code(4, cell, 4, cell, 17, 0, 0, 6, 5, cell), 0, 0, 0, 0);
        }
        ShuffleMill mill = new ShuffleMill();
        for (int key = 0; key < 3; key++) {
            mill.record(0, key, 5);
        }
        Due.copyJob(mill, 0, 0, -1, 1, 1);
        Due.give(mill, 0, Due.MAP, 1, 0, 2, 0, 17, 0, 0, 50, 5, 1);
        Due.give(mill, 0, Due.COMBINE, 4, 1, 2, 0, 6, 0, 17, 0, 0, 60, 5, 1, 0, 60, 5, 3);
        Due.give(mill, 0, Due.REDUCE, 1, 0, 4, 1, 4, 3, 6, 0, 2, 0, 6, 0, 17, 0, 0, 70, 5, 1, 0, 70, 5, 3);
        Due.is("finish", -1, Due.runAlone(mill));
        Due.file("VALUES with nothing added", mill, 1, 0, 5, 1, 5, 2, 5);
    }

    private static void push() {
        for (long a : new long[] {MIN, MIN + 1, -1, 0, 1, 1L << 32, MAX - 1, MAX}) {
            Calls.top("0 " + a, a, 0, a);
        }
    }

    private static void key() {
        Calls.top("1, often, whatever its argument", 9, 1, MIN, 1, MAX, 6, 0, 1, -1, 6, 0);
    }

    private static void valueOfMap() {
        Calls.made("once", Due.MAP, 1, Calls.code(1, 0, 2, 0, 17, 0), 3, 5);
        Calls.made("never", Due.MAP, 1, Calls.code(1, 0, 0, 4, 17, 0), 3, 4);
        Calls.made("12 times", Due.MAP, 1, Calls.join(Calls.times(12, 2, 0), Calls.times(10, 6, 0),
                Calls.code(17, 0)), 5, 55);
        Calls.made("each RECORD its own", Due.MAP, 2, Calls.code(2, 0, 13, 0, 1, 0, 2, 0, 17, 0), 3, 5, 3, 6);
    }

    private static void valueOfOthers() {
        Calls.made("three in their order", Due.REDUCE, 3, Calls.code(2, 0, 2, 0, 17, 0, 1, 0, 2, 0, 17, 0),
                5, 6, 3, 7);
        Calls.made("not all need be taken", Due.REDUCE, 3, Calls.code(1, 0, 2, 0, 17, 0), 3, 5);
        Calls.made("three in their order", Due.COMBINE, 3, Calls.times(3, 2, 0, 17, 0), 3, 5, 3, 6, 3, 7);
        Calls.made("not all need be taken", Due.COMBINE, 3, Calls.code(2, 0, 17, 0), 3, 5);
        Calls.made("none need be taken", Due.COMBINE, 3, Calls.code(0, 4, 17, 0), 3, 4);
    }

    private static void more() {
        Calls.made("before the first of two, between, and behind", Due.COMBINE, 2, Calls.code(
                3, 0, 17, 0, 2, 0, 13, 0, 3, 0, 17, 0, 2, 0, 13, 0, 3, 0, 17, 0, 3, 0, 17, 0), 3, 1, 3, 1, 3, 0, 3, 0);
        Calls.made("before the only one, and behind", Due.REDUCE, 1, Calls.code(
                1, 0, 3, 0, 17, 0, 2, 0, 13, 0, 1, 0, 3, 0, 17, 0), 3, 1, 3, 0);
        Calls.made("it takes none", Due.REDUCE, 1, Calls.code(3, 0, 3, 0, 3, 0, 2, 0, 17, 0), 1, 5);
    }

    private static void moreOfMap() {
        Calls.made("before a VALUE is taken, and behind", Due.MAP, 1, Calls.code(3, 0, 2, 0, 13, 0, 3, 0, 17, 0), 0, 0);
        Calls.made("though there are more RECORDS", Due.MAP, 2, Calls.code(1, 0, 3, 0, 17, 0), 3, 0, 3, 0);
    }

    private static void load() {
        Calls.top("it can be read again", 18, 0, 9, 5, 3, 4, 3, 4, 3, 6, 0);
    }

    private static void store() {
        Calls.top("it is popped", 7, 0, 7, 0, 8, 5, 0);
        Calls.top("the last one stays", 8, 0, 7, 5, 2, 0, 8, 5, 2, 4, 2);
        Calls.top("all longs", MIN, 0, MIN, 5, 1, 4, 1);
    }

    private static void popped() {
        for (int op = 6; op <= 11; op++) {
            Calls.top(op + " leaves what lies below", 77, 0, 77, 0, 3, 0, 2, op, 0, 13, 0);
        }
    }

    private static void doubles() {
        Calls.top("two of them", 12, 0, 6, 12, 0, 6, 0);
        Calls.top("what lies below stays", 5, 0, 5, 0, 6, 12, 0, 13, 0, 13, 0);
        Calls.top("up to 12", 12, Calls.join(Calls.code(0, 1), Calls.times(11, 12, 0), Calls.times(11, 6, 0)));
    }

    private static void drops() {
        Calls.top("the top one", 2, 0, 1, 0, 2, 0, 3, 13, 0);
    }

    private static void changes() {
        Calls.top("- the other way", 1, 0, 2, 0, 3, 14, 0, 7, 0);
        Calls.top("twice is as it was", -1, 0, 2, 0, 3, 14, 0, 14, 0, 7, 0);
        Calls.top("what lies below stays", 7, 0, 7, 0, 2, 0, 3, 14, 0, 13, 0, 13, 0);
    }

    private static void goes() {
        for (int place : Calls.PLACES) {
            long[] emit = Calls.join(Calls.code(0, 4), Calls.emitTop(place));
            int length = emit.length / 2;
            long key = Calls.keyOf(place);
            Calls.made("forward", place, 1, Calls.join(Calls.code(15, 2, 13, 0), emit), key, 4);
            Calls.made("to the next", place, 1, Calls.join(Calls.code(15, 1), emit), key, 4);
            Calls.made("to the end", place, 1, Calls.join(emit, Calls.code(15, length + 2, 13, 0)), key, 4);
            Calls.made("to the end, which is the next", place, 1, Calls.join(emit, Calls.code(15, length + 1)), key, 4);
            Calls.made("back", place, 1, Calls.join(Calls.code(15, length + 2), emit,
                    Calls.code(15, length + 3, 15, 1)), key, 4);
            Calls.made("from the first to the end, which is 40", place, 1, Calls.join(Calls.code(15, 40),
                    Calls.times(39, 13, 0)));
        }
        Calls.made("to INSTRUCTION 0", Due.MAP, 1, Calls.code(4, 0, 16, 3, 18, 0, 0, 1, 5, 0, 1, 0, 2, 0, 17, 0, 15, 0),
                3, 5);
        Calls.made("to INSTRUCTION 39", Due.MAP, 1, Calls.join(Calls.code(1, 0, 2, 0, 15, 39), Calls.times(36, 13, 0),
                Calls.code(17, 0)), 3, 5);
    }

    private static void goesIf0() {
        Calls.top("0", 1, 0, 0, 16, 4, 0, 2, 15, 5, 0, 1);
        for (long other : new long[] {1, -1, 1L << 32, MIN, MAX}) {
            Calls.top("not if " + other, 2, 0, other, 16, 4, 0, 2, 15, 5, 0, 1);
        }
        Calls.top("0 is popped", 8, 0, 8, 0, 0, 16, 3);
        Calls.top("another one too", 8, 0, 8, 0, 1, 16, 3);
        for (int place : Calls.PLACES) {
            Calls.made("to the end", place, 1, Calls.code(0, 0, 16, 3, 13, 0));
            Calls.made("to the end, which is 40", place, 1, Calls.join(Calls.code(0, 0, 16, 40),
                    Calls.times(38, 13, 0)));
        }
    }

    private static void emitsOfCombine() {
        Calls.made("one is enough", Due.COMBINE, 1, Calls.code(0, MIN, 17, 0), 3, MIN);
        Calls.made("only one is popped", Due.COMBINE, 1, Calls.code(0, 1, 0, 2, 17, 0, 17, 0), 3, 2, 3, 1);
    }

    private static void emits() {
        for (int place : new int[] {Due.MAP, Due.REDUCE}) {
            Calls.made("KEY and VALUE", place, 1, Calls.code(0, MIN, 0, MAX, 17, 0), MIN, MAX);
            Calls.made("both are popped", place, 1, Calls.code(0, 1, 0, 2, 0, 3, 0, 4, 17, 0, 17, 0),
                    place == Due.MAP ? new long[] {1, 2, 3, 4} : new long[] {3, 4, 1, 2});
        }
    }

    private static void ends() {
        for (int place : Calls.PLACES) {
            long[] emit = Calls.join(Calls.code(0, 4), Calls.emitTop(place));
            Calls.made("nothing behind it is done", place, 1, Calls.join(emit, Calls.code(18, 0, 13, 0)),
                    Calls.keyOf(place), 4);
            Calls.made("at once", place, 1, Calls.join(Calls.code(18, 0), emit));
            Calls.made("with something on the stack", place, 1, Calls.code(0, 1, 18, 0));
        }
    }

    private static void theEnd() {
        Calls.top("without 18", 4, 0, 4);
        for (int place : Calls.PLACES) {
            Calls.made("with something on the stack", place, 1, Calls.code(0, 1));
        }
    }
}
