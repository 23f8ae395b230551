/** code: one INSTRUCTION more of the PROGRAM that is put together, up to 40. */
final class Promise04CodeTest {
    public static void main(String[] args) {
        ShuffleMill mill = new ShuffleMill();
        Due.badArgument("op -1", () -> mill.code(-1, 0));
        Due.badArgument("op 19", () -> mill.code(19, 0));
        for (int op = 4; op <= 5; op++) {
            int cell = op;
            Due.badArgument("CELL -1", () -> mill.code(cell, -1));
            Due.badArgument("CELL 4", () -> mill.code(cell, 4));
            Due.badArgument("CELL 2^32", () -> mill.code(cell, 1L << 32));
        }
        for (int op = 15; op <= 16; op++) {
            int leap = op;
            Due.badArgument("INSTRUCTION -1", () -> mill.code(leap, -1));
            Due.badArgument("INSTRUCTION 41", () -> mill.code(leap, 41));
            Due.badArgument("INSTRUCTION 2^32", () -> mill.code(leap, 1L << 32));
        }
        Due.is("nothing is put together", 0, mill.count(2));
        int length = 0;
        for (int op = 0; op <= 18; op++) {
            length++;
            Due.is("op " + op, length, mill.code(op, 0));
        }
        for (long a : new long[] {Long.MIN_VALUE, Long.MAX_VALUE, -1, 41}) {
            length++;
            Due.is("any argument where it has no meaning", length, mill.code(13, a));
        }
        Due.is("CELL 3", length + 1, mill.code(4, 3));
        Due.is("CELL 3", length + 2, mill.code(5, 3));
        Due.is("INSTRUCTION 40", length + 3, mill.code(15, 40));
        Due.is("INSTRUCTION 40", length + 4, mill.code(16, 40));
        length += 4;
        mill.begin();
        Due.badState("code in THE RUN", () -> mill.code(0, 0));
        Due.badArgument("op 19 in THE RUN", () -> mill.code(19, 0));
        mill.finish();
        while (length < 40) {
            length++;
            Due.is("code", length, mill.code(0, -7));
        }
        Due.badState("the 41st INSTRUCTION", () -> mill.code(0, 0));
        Due.badArgument("a wrong 41st INSTRUCTION", () -> mill.code(4, 4));
        Due.is("40 are put together", 40, mill.count(2));
        Due.is("and are one PROGRAM", 40, mill.program(0, 0));
        Due.is("code of the next one", 1, mill.code(0, 0));
        Due.end();
    }
}
