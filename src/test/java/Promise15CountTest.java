/** count: what is there, also while THE RUN goes on. */
final class Promise15CountTest {
    public static void main(String[] args) {
        Due.test("What 0: 1 if THE RUN goes on, else 0", Promise15CountTest::goesOn);
        Due.test("1: JOBS that are made", Promise15CountTest::jobs);
        Due.test("2: INSTRUCTIONS of the PROGRAM that is put together", Promise15CountTest::putTogether);
        Due.test("3: RUNS that were begun", Promise15CountTest::runs);
        Due.test("10 + j: 1 if JOB j is made, else 0", Promise15CountTest::made);
        Due.test("20 + j, 30 + j, 40 + j: INSTRUCTIONS of its MAP, COMBINE, REDUCE", Promise15CountTest::programs);
        Due.test("also while THE RUN goes on", Promise15CountTest::running);
        Due.test("IllegalArgumentException for others", Promise15CountTest::others);
        Due.end();
    }

    private static void goesOn() {
        ShuffleMill mill = new ShuffleMill();
        Due.is("at first", 0, mill.count(0));
        mill.begin();
        Due.is("begun", 1, mill.count(0));
        mill.tick(6, 200);
        mill.crash(6);
        Due.is("still", 1, mill.count(0));
        mill.finish();
        Due.is("over", 0, mill.count(0));
        mill.record(0, 1, 1);
        Due.copyJob(mill, 0, 0, 1, 1, 1);
        Due.thrown("begin", UnsupportedOperationException.class, mill::begin);
        Due.is("refused", 0, mill.count(0));
        Due.give(mill, 0, Due.MAP, 13, 0);
        mill.job(0, 0, -1, 1, 1);
        Due.is("FAILED", 0, Due.runAlone(mill));
        Due.is("over", 0, mill.count(0));
    }

    private static void jobs() {
        ShuffleMill mill = new ShuffleMill();
        for (int j = 0; j < 8; j++) {
            Due.is("JOBS", j, mill.count(1));
            Due.copyJob(mill, j, 0, -1, 1 + j, 1);
        }
        Due.is("all", 8, mill.count(1));
        mill.job(0, 0, -1, 1, 2);
        Due.is("one made anew", 8, mill.count(1));
        mill.drop(0);
        mill.drop(0);
        mill.drop(7);
        Due.is("two dropped", 6, mill.count(1));
    }

    private static void putTogether() {
        ShuffleMill mill = new ShuffleMill();
        for (int i = 0; i < 40; i++) {
            Due.is("INSTRUCTIONS", i, mill.count(2));
            mill.code(0, 0);
        }
        Due.is("INSTRUCTIONS", 40, mill.count(2));
        Due.badState("the 41st", () -> mill.code(0, 0));
        Due.is("INSTRUCTIONS", 40, mill.count(2));
        mill.program(0, 1);
        Due.is("none then", 0, mill.count(2));
    }

    private static void runs() {
        ShuffleMill mill = new ShuffleMill();
        for (int run = 0; run < 100; run++) {
            Due.is("RUNS", run, mill.count(3));
            mill.begin();
            Due.is("RUNS", run + 1, mill.count(3));
            mill.finish();
        }
        mill.begin();
        Due.badState("begin again", mill::begin);
        Due.is("one that is refused does not count", 101, mill.count(3));
        mill.finish();
        Due.copyJob(mill, 0, 0, -1, 0, 1);
        Due.thrown("its own OUTPUT", UnsupportedOperationException.class, mill::begin);
        Due.is("one that is refused does not count", 101, mill.count(3));
    }

    private static void made() {
        for (int j = 0; j < 8; j++) {
            ShuffleMill mill = new ShuffleMill();
            Due.give(mill, j, Due.MAP, Due.COPY);
            Due.give(mill, j, Due.REDUCE, Due.EACH);
            Due.is("PROGRAMS do not make it", 0, mill.count(10 + j));
            mill.job(j, 0, -1, 1, 1);
            for (int k = 0; k < 8; k++) {
                Due.is("JOB " + k, k == j ? 1 : 0, mill.count(10 + k));
            }
            mill.drop(j);
            Due.is("dropped", 0, mill.count(10 + j));
        }
    }

    private static void programs() {
        for (int what = 0; what <= 2; what++) {
            ShuffleMill mill = new ShuffleMill();
            for (int j = 0; j < 8; j++) {
                for (int i = 0; i < (j == 7 ? 40 : j + 1); i++) {
                    mill.code(18, 0);
                }
                mill.program(j, what);
            }
            for (int j = 0; j < 8; j++) {
                for (int k = 0; k <= 2; k++) {
                    Due.is("count " + (20 + 10 * k + j), k != what ? 0 : j == 7 ? 40 : j + 1,
                            mill.count(20 + 10 * k + j));
                }
            }
        }
    }

    private static void running() {
        ShuffleMill mill = new ShuffleMill();
        Twins.rest(mill);
        mill.begin();
        Due.is("JOBS", 1, mill.count(1));
        Due.is("put together", 3, mill.count(2));
        Due.is("RUNS", 1, mill.count(3));
        Due.is("JOB 0", 1, mill.count(10));
        Due.is("JOB 7", 0, mill.count(17));
        Due.is("MAP", 3, mill.count(20));
        Due.is("COMBINE", 9, mill.count(30));
        Due.is("REDUCE", 10, mill.count(40));
    }

    private static void others() {
        int[] others = {Integer.MIN_VALUE, -50, -10, -1, 4, 5, 9, 18, 19, 28, 29, 38, 39, 48, 49, 50, 51, 57, 60,
            Integer.MAX_VALUE};
        for (int what : others) {
            for (var state : Twins.ALL) {
                Twins.badArgument("count " + what, state, mill -> mill.count(what));
            }
        }
        ShuffleMill mill = new ShuffleMill();
        for (int what = -20; what < 80; what++) {
            int at = what;
            boolean known = what >= 0 && what <= 3 || what >= 10 && what < 50 && what % 10 < 8;
            if (known) {
                Due.is("count " + what, 0, mill.count(what));
            } else {
                Due.badArgument("count " + what, () -> mill.count(at));
            }
        }
    }
}
