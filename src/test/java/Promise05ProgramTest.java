/** program: what was put together is a JOB's MAP, COMBINE or REDUCE. */
final class Promise05ProgramTest {
    public static void main(String[] args) {
        wrongInputs();
        eachPlace();
        leaps();
        changedBehindTheJob();
        Due.end();
    }

    private static void wrongInputs() {
        ShuffleMill mill = new ShuffleMill();
        Due.badArgument("an empty MAP", () -> mill.program(0, 0));
        Due.badArgument("an empty REDUCE", () -> mill.program(0, 2));
        Due.is("an empty COMBINE", 0, mill.program(0, 1));
        mill.code(18, 0);
        Due.noFile("JOB -1", () -> mill.program(-1, 0));
        Due.noFile("JOB 8", () -> mill.program(8, 0));
        Due.noFile("JOB 8 and what 3", () -> mill.program(8, 3));
        Due.badArgument("what -1", () -> mill.program(0, -1));
        Due.badArgument("what 3", () -> mill.program(0, 3));
        Due.is("what is put together stays", 1, mill.count(2));
        mill.begin();
        Due.badState("program in THE RUN", () -> mill.program(0, 0));
        Due.badState("a COMBINE in THE RUN", () -> mill.program(0, 1));
        Due.noFile("JOB 8 in THE RUN", () -> mill.program(8, 0));
        Due.badArgument("what 3 in THE RUN", () -> mill.program(0, 3));
        mill.finish();
        Due.is("it stays", 1, mill.count(2));
        Due.is("no MAP came of it", 0, mill.count(20));
        Due.is("program", 1, mill.program(0, 0));
        mill.begin();
        Due.badArgument("an empty MAP in THE RUN", () -> mill.program(0, 0));
        mill.finish();
    }

    private static void eachPlace() {
        ShuffleMill mill = new ShuffleMill();
        for (int what = 0; what <= 2; what++) {
            for (int j = 0; j < 8; j += 7) {
                for (int i = 0; i <= what; i++) {
                    mill.code(18, 0);
                }
                Due.is("program", what + 1, mill.program(j, what));
                Due.is("none is put together then", 0, mill.count(2));
                Due.is("its length", what + 1, mill.count(20 + 10 * what + j));
            }
        }
        Due.is("an empty COMBINE", 0, mill.program(7, 1));
        Due.is("is none", 0, mill.count(37));
        Due.is("another JOB's stays", 2, mill.count(30));
        mill.code(0, 1);
        mill.code(13, 0);
        mill.code(18, 0);
        Due.is("a shorter REDUCE is taken anew", 3, mill.program(0, 2));
        mill.code(18, 0);
        Due.is("a shorter REDUCE is taken anew", 1, mill.program(0, 2));
        Due.is("its length", 1, mill.count(40));
    }

    private static void leaps() {
        ShuffleMill mill = new ShuffleMill();
        for (int op = 15; op <= 16; op++) {
            mill.code(0, 0);
            mill.code(op, 3);
            Due.badArgument("one behind the end", () -> mill.program(0, 0));
            Due.badArgument("one behind the end, of COMBINE", () -> mill.program(0, 1));
            mill.begin();
            Due.badArgument("one behind the end, in THE RUN", () -> mill.program(0, 0));
            mill.finish();
            Due.is("it stays", 2, mill.count(2));
            Due.is("more comes behind it", 3, mill.code(18, 0));
            Due.is("the end itself", 3, mill.program(0, 0));
        }
    }

    /** A JOB takes the PROGRAMS that it has when THE RUN begins. */
    private static void changedBehindTheJob() {
        ShuffleMill mill = new ShuffleMill();
        mill.record(0, 5, 1);
        mill.record(0, 5, 2);
        Due.copyJob(mill, 0, 0, -1, 1, 1);
        Due.give(mill, 0, Due.REDUCE, Due.SUM);
        Due.is("with another REDUCE", -1, Due.runAlone(mill));
        Due.file("the sum", mill, 1, 5, 3);
        Due.give(mill, 0, Due.COMBINE, 0, 10, 17, 0);
        Due.is("with a COMBINE", -1, Due.runAlone(mill));
        Due.file("what it says", mill, 1, 5, 10);
        Due.give(mill, 0, Due.COMBINE);
        Due.give(mill, 0, Due.MAP, 2, 0, 1, 0, 17, 0);
        Due.is("without it, and with another MAP", -1, Due.runAlone(mill));
        Due.file("KEYS and VALUES changed", mill, 1, 1, 5, 2, 5);
    }
}
