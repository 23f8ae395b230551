/** program: what was put together is a JOB's MAP, COMBINE or REDUCE. */
final class Promise05ProgramTest {
    public static void main(String[] args) {
        Due.test("The PROGRAM that was put together is JOB j's MAP (what 0), COMBINE (1) or REDUCE (2)",
                Promise05ProgramTest::each);
        Due.test("(which is none then)", Promise05ProgramTest::noneThen);
        Due.test("COMBINE (none, if it is empty)", Promise05ProgramTest::emptyCombine);
        Due.test("how many INSTRUCTIONS", Promise05ProgramTest::howMany);
        Due.test("one takes the place of another", Promise05ProgramTest::anew);
        Due.test("IndexOutOfBoundsException if there is no JOB j (0 to 7)", Promise05ProgramTest::noJob);
        Due.test("IllegalArgumentException for another what", Promise05ProgramTest::otherWhat);
        Due.test("or if it is empty (not for 1)", Promise05ProgramTest::empty);
        Due.test("or 15 or 16 goes behind its end", Promise05ProgramTest::behindTheEnd);
        Due.test("(the end itself may be)", Promise05ProgramTest::theEnd);
        Due.test("IllegalStateException if THE RUN goes on", Promise05ProgramTest::running);
        Due.test("the exceptions in their order", Promise05ProgramTest::order);
        Due.end();
    }

    /** Each of the 24 has a length of its own, and each is seen in what its JOB makes. */
    private static void each() {
        ShuffleMill mill = new ShuffleMill();
        mill.record(0, 3, 1);
        for (int j = 0; j < 8; j++) {
            Due.is("MAP", 5, Due.give(mill, j, Due.MAP, 1, 0, 2, 0, 0, j, 6, 0, 17, 0));
            Due.is("COMBINE", 4, Due.give(mill, j, Due.COMBINE, 2, 0, 0, 10 * j, 6, 0, 17, 0));
            Due.is("REDUCE", 6, Due.give(mill, j, Due.REDUCE, 1, 0, 2, 0, 0, 100 * j, 6, 0, 17, 0, 18, 0));
            mill.job(j, 0, -1, 1 + j, 1);
        }
        Due.is("finish", -1, Due.runAlone(mill));
        for (int j = 0; j < 8; j++) {
            Due.is("its MAP", 5, mill.count(20 + j));
            Due.is("its COMBINE", 4, mill.count(30 + j));
            Due.is("its REDUCE", 6, mill.count(40 + j));
            Due.file("what JOB " + j + " makes", mill, 1 + j, 3, 1 + 111 * j);
        }
    }

    private static void noneThen() {
        ShuffleMill mill = new ShuffleMill();
        for (int what = 0; what <= 2; what++) {
            mill.code(18, 0);
            Due.is("before", 1, mill.count(2));
            mill.program(3, what);
            Due.is("behind", 0, mill.count(2));
        }
        Due.badArgument("it is not there again", () -> mill.program(4, Due.MAP));
        mill.record(0, 1, 2);
        Due.copyJob(mill, 0, 0, -1, 1, 1);
        mill.code(13, 0);
        mill.code(13, 0);
        mill.code(13, 0);
        Due.is("the next one is not the last one's: finish", -1, Due.runAlone(mill));
        Due.file("the next one is not the last one's", mill, 1, 1, 2);
    }

    private static void emptyCombine() {
        ShuffleMill mill = new ShuffleMill();
        mill.record(0, 1, 2);
        mill.record(0, 1, 3);
        Due.copyJob(mill, 0, 0, -1, 1, 1);
        Due.is("where there was none", 0, mill.program(0, Due.COMBINE));
        Due.is("finish", -1, Due.runAlone(mill));
        Due.file("without", mill, 1, 1, 2, 1, 3);
        Due.give(mill, 0, Due.COMBINE, Due.COMBINE_SUM);
        Due.is("where there was one", 0, mill.program(0, Due.COMBINE));
        Due.is("its length", 0, mill.count(30));
        Due.is("finish", -1, Due.runAlone(mill));
        Due.file("without", mill, 1, 1, 2, 1, 3);
        Due.give(mill, 0, Due.COMBINE, 18, 0);
        Due.is("finish", -1, Due.runAlone(mill));
        Due.is("one that does nothing is not none", 0, mill.size(1));
    }

    private static void howMany() {
        ShuffleMill mill = new ShuffleMill();
        for (int what = 0; what <= 2; what++) {
            for (int length : new int[] {1, 2, 39, 40}) {
                for (int i = 0; i < length; i++) {
                    mill.code(18, 0);
                }
                Due.is("program", length, mill.program(7, what));
                Due.is("count", length, mill.count(27 + 10 * what));
            }
        }
    }

    private static void anew() {
        ShuffleMill mill = new ShuffleMill();
        mill.record(0, 1, 2);
        Due.copyJob(mill, 0, 0, -1, 1, 1);
        Due.give(mill, 0, Due.MAP, 1, 0, 13, 0, 1, 0, 13, 0, 1, 0, 2, 0, 17, 0, 13, 0);
        Due.is("a MAP with a TRAP at its end", 0, Due.runAlone(mill));
        Due.give(mill, 0, Due.MAP, 0, 1, 0, 7, 17, 0);
        Due.is("a shorter one", -1, Due.runAlone(mill));
        Due.file("nothing of the old is left", mill, 1, 1, 7);
        Due.give(mill, 0, Due.MAP, 0, 1, 0, 7, 17, 0, 0, 2, 0, 8, 17, 0);
        Due.is("a longer one", -1, Due.runAlone(mill));
        Due.file("all of it is there", mill, 1, 1, 7, 2, 8);
    }

    private static void noJob() {
        for (int j : new int[] {-1, 8, Integer.MIN_VALUE, Integer.MAX_VALUE}) {
            for (int what = 0; what <= 2; what++) {
                int place = what;
                for (var state : Twins.ALL) {
                    Twins.noSuch("JOB " + j, state, mill -> mill.program(j, place));
                }
            }
        }
    }

    private static void otherWhat() {
        for (int what : new int[] {-1, 3, Integer.MIN_VALUE, Integer.MAX_VALUE}) {
            for (var state : Twins.ALL) {
                Twins.badArgument("what " + what, state, mill -> mill.program(0, what));
                Twins.badArgument("what " + what, state, mill -> mill.program(7, what));
            }
        }
    }

    private static void empty() {
        for (int j = 0; j < 8; j++) {
            int at = j;
            Twins.badArgument("MAP of " + j, Twins::fresh, mill -> mill.program(at, Due.MAP));
            Twins.badArgument("REDUCE of " + j, Twins::fresh, mill -> mill.program(at, Due.REDUCE));
            Due.is("COMBINE of " + j, 0, new ShuffleMill().program(j, Due.COMBINE));
        }
        ShuffleMill mill = new ShuffleMill();
        Due.copyJob(mill, 0, 0, -1, 1, 1);
        Due.badArgument("where there is a MAP", () -> mill.program(0, Due.MAP));
        Due.badArgument("where there is a REDUCE", () -> mill.program(0, Due.REDUCE));
        Due.is("the MAP stays", 3, mill.count(20));
        Due.is("the REDUCE stays", 6, mill.count(40));
    }

    /** So many INSTRUCTIONS, one of which goes somewhere; the others end. */
    private static void leap(ShuffleMill mill, int length, int at, int op, int to) {
        for (int i = 0; i < length; i++) {
            mill.code(i == at ? op : 18, i == at ? to : 0);
        }
    }

    private static void behindTheEnd() {
        for (int op = 15; op <= 16; op++) {
            int by = op;
            for (int length : new int[] {1, 2, 5, 39}) {
                for (int at : new int[] {0, length / 2, length - 1}) {
                    for (int to : new int[] {length + 1, 40}) {
                        for (int what = 0; what <= 2; what++) {
                            int place = what;
                            Twins.badArgument(op + " " + to + " at " + at + " of " + length,
                                    mill -> leap(mill, length, at, by, to), mill -> mill.program(0, place));
                        }
                    }
                }
            }
            ShuffleMill mill = new ShuffleMill();
            leap(mill, 2, 0, op, 3);
            Due.badArgument("3 of 2", () -> mill.program(0, 0));
            Due.is("it stays", 2, mill.count(2));
            Due.is("one more", 3, mill.code(18, 0));
            Due.is("3 of 3", 3, mill.program(0, 0));
        }
    }

    private static void theEnd() {
        for (int op = 15; op <= 16; op++) {
            for (int length : new int[] {1, 2, 39, 40}) {
                for (int at : new int[] {0, length / 2, length - 1}) {
                    for (int to : new int[] {0, length - 1, length}) {
                        ShuffleMill mill = new ShuffleMill();
                        leap(mill, length, at, op, to);
                        Due.is(op + " " + to + " at " + at, length, mill.program(0, at % 3));
                    }
                }
            }
        }
    }

    private static void running() {
        for (int j : new int[] {0, 3, 7}) {
            for (int what = 0; what <= 2; what++) {
                int place = what;
                Twins.badState(place + " of JOB " + j, Twins::running, mill -> mill.program(j, place));
            }
        }
        Twins.badState("an empty COMBINE", mill -> {
            Due.copyJob(mill, 0, 0, -1, 1, 1);
            Due.give(mill, 0, Due.COMBINE, 18, 0);
            mill.begin();
        }, mill -> mill.program(0, Due.COMBINE));
        ShuffleMill mill = new ShuffleMill();
        mill.code(18, 0);
        mill.begin();
        Due.badState("in THE RUN", () -> mill.program(0, 0));
        mill.finish();
        Due.is("behind it", 1, mill.program(0, 0));
    }

    private static void order() {
        Twins.noSuch("JOB 8 and what 3", Twins::rest, mill -> mill.program(8, 3));
        Twins.noSuch("JOB -1 and an empty MAP", Twins::fresh, mill -> mill.program(-1, 0));
        Twins.noSuch("JOB 8 in THE RUN", Twins::running, mill -> mill.program(8, 0));
        Twins.badArgument("what 3 in THE RUN", Twins::running, mill -> mill.program(0, 3));
        Twins.badArgument("an empty MAP in THE RUN", ShuffleMill::begin, mill -> mill.program(0, 0));
        Twins.badArgument("an empty REDUCE in THE RUN", ShuffleMill::begin, mill -> mill.program(0, 2));
        Twins.badArgument("behind its end in THE RUN", mill -> {
            leap(mill, 2, 1, 15, 3);
            mill.begin();
        }, mill -> mill.program(0, 1));
    }
}
