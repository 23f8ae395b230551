/** job: a JOB is made, anew if it was. */
final class Promise06JobTest {
    private static final int[] NO_FILES = {16, Integer.MIN_VALUE, Integer.MAX_VALUE};

    public static void main(String[] args) {
        Due.test("JOB j is made", Promise06JobTest::made);
        Due.test("anew if it was", Promise06JobTest::anew);
        Due.test("INPUTS a and b", Promise06JobTest::twoInputs);
        Due.test("(or a alone, if b is -1)", Promise06JobTest::oneInput);
        Due.test("the same FILE twice is taken twice", Promise06JobTest::sameTwice);
        Due.test("OUTPUT, PARTS", Promise06JobTest::outputAndParts);
        Due.test("IndexOutOfBoundsException if there is no JOB j", Promise06JobTest::noJob);
        Due.test("IllegalArgumentException if a is no FILE", Promise06JobTest::wrongA);
        Due.test("IllegalArgumentException if output is no FILE", Promise06JobTest::wrongOutput);
        Due.test("b no FILE and not -1", Promise06JobTest::wrongB);
        Due.test("or parts not 1 to 6", Promise06JobTest::wrongParts);
        Due.test("IllegalStateException if it has no MAP or no REDUCE", Promise06JobTest::noPrograms);
        Due.test("IllegalStateException if THE RUN goes on", Promise06JobTest::running);
        Due.test("the exceptions in their order", Promise06JobTest::order);
        Due.end();
    }

    private static void made() {
        for (int j = 0; j < 8; j++) {
            ShuffleMill mill = new ShuffleMill();
            Due.copyJob(mill, j, 0, 15, 7, 3);
            for (int k = 0; k < 8; k++) {
                Due.is("JOB " + k, k == j ? 1 : 0, mill.count(10 + k));
            }
            Due.is("JOBS", 1, mill.count(1));
            Due.is("begin", 1, mill.begin());
        }
    }

    private static void anew() {
        ShuffleMill mill = new ShuffleMill();
        mill.record(0, 1, 10);
        mill.record(1, 2, 20);
        Due.copyJob(mill, 0, 0, -1, 2, 1);
        mill.job(0, 1, -1, 3, 2);
        Due.is("JOBS", 1, mill.count(1));
        Due.is("begin", 1, mill.begin());
        Due.is("finish", -1, mill.finish());
        Due.is("the old OUTPUT", 0, mill.size(2));
        Due.file("the new OUTPUT", mill, 3, 2, 20);
        mill.drop(0);
        mill.job(0, 0, -1, 2, 1);
        Due.is("behind drop: finish", -1, Due.runAlone(mill));
        Due.file("behind drop", mill, 2, 1, 10);
    }

    private static void twoInputs() {
        ShuffleMill mill = new ShuffleMill();
        for (int f = 0; f < 16; f++) {
            mill.record(f, 1, f);
        }
        Due.give(mill, 0, Due.MAP, Due.COPY);
        Due.give(mill, 0, Due.REDUCE, Due.EACH);
        for (int a = 0; a < 16; a++) {
            int b = (a + 5) % 16;
            int output = (a + 9) % 16;
            mill.job(0, a, b, output, 1);
            Due.is("finish", -1, Due.runAlone(mill));
            Due.file("FILES " + a + " and " + b, mill, output, 1, a, 1, b);
            mill.clear(output);
            mill.record(output, 1, output);
            Due.file("INPUTS stay", mill, a, 1, a);
            Due.file("INPUTS stay", mill, b, 1, b);
        }
    }

    private static void oneInput() {
        ShuffleMill mill = new ShuffleMill();
        for (int f = 0; f < 16; f++) {
            mill.record(f, 1, f);
        }
        Due.give(mill, 0, Due.MAP, Due.COPY);
        Due.give(mill, 0, Due.REDUCE, Due.EACH);
        for (int a = 0; a < 16; a++) {
            int output = (a + 9) % 16;
            mill.job(0, a, -1, output, 1);
            Due.is("finish", -1, Due.runAlone(mill));
            Due.file("FILE " + a, mill, output, 1, a);
            mill.clear(output);
            mill.record(output, 1, output);
        }
    }

    private static void sameTwice() {
        ShuffleMill mill = new ShuffleMill();
        mill.record(0, 1, 10);
        mill.record(0, 2, 20);
        Due.copyJob(mill, 0, 0, 0, 3, 1);
        Due.is("finish", -1, Due.runAlone(mill));
        Due.file("FILE 0", mill, 3, 1, 10, 1, 10, 2, 20, 2, 20);
        mill.job(0, 9, 9, 3, 1);
        Due.is("finish", -1, Due.runAlone(mill));
        Due.is("an empty one", 0, mill.size(3));
    }

    private static void outputAndParts() {
        ShuffleMill mill = new ShuffleMill();
        mill.record(0, 5, 1);
        mill.record(0, 6, 2);
        Due.copyJob(mill, 0, 0, -1, 15, 6);
        Due.is("finish", -1, Due.runAlone(mill));
        Due.file("FILE 15, six PARTS", mill, 15, 6, 2, 5, 1);
        mill.job(0, 15, -1, 0, 1);
        Due.is("finish", -1, Due.runAlone(mill));
        Due.file("FILE 0, one PART", mill, 0, 5, 1, 6, 2);
    }

    private static void noJob() {
        for (int j : new int[] {-1, 8, Integer.MIN_VALUE, Integer.MAX_VALUE}) {
            for (var state : Twins.ALL) {
                Twins.noSuch("JOB " + j, state, mill -> mill.job(j, 0, -1, 5, 1));
            }
        }
    }

    /** JOB 0 is made, JOB 7 is not, JOB 5 has no PROGRAMS. */
    private static void wrong(int a, int b, int output, int parts) {
        String what = "job " + a + " " + b + " " + output + " " + parts;
        for (int j : new int[] {0, 5, 7}) {
            Twins.badArgument(what, Twins::rest, mill -> mill.job(j, a, b, output, parts));
            Twins.badArgument(what, Twins::running, mill -> mill.job(j, a, b, output, parts));
        }
    }

    private static void wrongA() {
        wrong(-1, 0, 5, 1);
        wrong(-1, -1, 5, 1);
        for (int f : NO_FILES) {
            wrong(f, 0, 5, 1);
        }
    }

    private static void wrongOutput() {
        wrong(0, 2, -1, 1);
        for (int f : NO_FILES) {
            wrong(0, 2, f, 1);
        }
    }

    private static void wrongB() {
        wrong(0, -2, 5, 1);
        for (int f : NO_FILES) {
            wrong(0, f, 5, 1);
        }
    }

    private static void wrongParts() {
        for (int parts : new int[] {0, 7, -1, Integer.MIN_VALUE, Integer.MAX_VALUE}) {
            wrong(0, 2, 5, parts);
        }
        ShuffleMill mill = new ShuffleMill();
        Due.copyJob(mill, 0, 0, -1, 5, 1);
        for (int parts = 1; parts <= 6; parts++) {
            mill.job(0, 0, -1, 5, parts);
            Due.is(parts + " PARTS", -1, Due.runAlone(mill));
        }
    }

    private static void noPrograms() {
        for (int j = 0; j < 8; j++) {
            int at = j;
            Twins.badState("none", Twins::fresh, mill -> mill.job(at, 0, -1, 5, 1));
            Twins.badState("a MAP alone", mill -> Due.give(mill, at, Due.MAP, Due.COPY),
                    mill -> mill.job(at, 0, -1, 5, 1));
            Twins.badState("a REDUCE alone", mill -> Due.give(mill, at, Due.REDUCE, Due.EACH),
                    mill -> mill.job(at, 0, -1, 5, 1));
            Twins.badState("a COMBINE alone", mill -> Due.give(mill, at, Due.COMBINE, 18, 0),
                    mill -> mill.job(at, 0, -1, 5, 1));
            Twins.badState("without MAP", mill -> {
                Due.give(mill, at, Due.COMBINE, 18, 0);
                Due.give(mill, at, Due.REDUCE, 18, 0);
            }, mill -> mill.job(at, 0, -1, 5, 1));
            Twins.badState("without REDUCE", mill -> {
                Due.give(mill, at, Due.MAP, 18, 0);
                Due.give(mill, at, Due.COMBINE, 18, 0);
            }, mill -> mill.job(at, 0, -1, 5, 1));
            Twins.badState("another JOB's", mill -> Due.copyJob(mill, 7 - at, 0, -1, 5, 1),
                    mill -> mill.job(at, 0, -1, 6, 1));
        }
        Twins.badState("put together, but not given", Twins::rest, mill -> mill.job(2, 0, -1, 5, 1));
    }

    private static void running() {
        Twins.badState("one that is made", Twins::running, mill -> mill.job(0, 15, -1, 5, 2));
        Twins.badState("one that is not", Twins::running, mill -> mill.job(7, 0, -1, 5, 1));
        Twins.badState("one without PROGRAMS", Twins::running, mill -> mill.job(5, 0, -1, 5, 1));
        ShuffleMill mill = new ShuffleMill();
        Due.copyJob(mill, 0, 0, -1, 1, 1);
        mill.begin();
        Due.badState("in THE RUN", () -> mill.job(0, 0, -1, 2, 1));
        mill.finish();
        mill.job(0, 0, -1, 2, 1);
        Due.is("behind it", -1, Due.runAlone(mill));
    }

    private static void order() {
        Twins.noSuch("JOB 8 and nothing right", Twins::rest, mill -> mill.job(8, 16, 16, 16, 0));
        Twins.noSuch("JOB -1 in THE RUN", Twins::running, mill -> mill.job(-1, 0, -1, 5, 1));
        Twins.badArgument("7 PARTS without PROGRAMS", Twins::fresh, mill -> mill.job(0, 0, -1, 5, 7));
        Twins.badArgument("FILE 16 without PROGRAMS", Twins::fresh, mill -> mill.job(0, 16, -1, 5, 1));
        Twins.badArgument("7 PARTS in THE RUN", Twins::running, mill -> mill.job(0, 0, -1, 5, 7));
    }
}
