/** begin: THE RUN begins. Which CHAINS can be run, and in which order, is tested with Terms 1. */
final class Promise08BeginTest {
    public static void main(String[] args) {
        Due.test("THE RUN begins", Promise08BeginTest::begins);
        Due.test("(also without JOBS)", Promise08BeginTest::withoutJobs);
        Due.test("how many JOBS THE CHAIN has", Promise08BeginTest::howMany);
        Due.test("a RUN behind another", Promise08BeginTest::again);
        Due.test("nothing of the last RUN is left", Promise08BeginTest::nothingLeft);
        Due.test("IllegalStateException if it goes on", Promise08BeginTest::running);
        Due.test("UnsupportedOperationException if THE CHAIN can not be run: no order", () -> cannot(mill -> {
            Due.copyJob(mill, 6, 0, 8, 9, 1);
            Due.copyJob(mill, 5, 9, -1, 8, 1);
        }));
        Due.test("UnsupportedOperationException if THE CHAIN can not be run: one OUTPUT", () -> cannot(mill ->
                Due.copyJob(mill, 6, 0, -1, 1, 1)));
        Due.test("UnsupportedOperationException if THE CHAIN can not be run: its own OUTPUT", () -> cannot(mill ->
                Due.copyJob(mill, 6, 15, 8, 8, 1)));
        Due.end();
    }

    private static void begins() {
        ShuffleMill mill = new ShuffleMill();
        Twins.rest(mill);
        mill.begin();
        Due.is("it goes on", 1, mill.count(0));
        Due.is("RUNS", 1, mill.count(3));
        mill.tick(0, 1);
        mill.crash(0);
        mill.line(0, 0);
        Due.badState("size", () -> mill.size(0));
        Due.is("finish", -1, mill.finish());
    }

    private static void withoutJobs() {
        ShuffleMill mill = new ShuffleMill();
        mill.record(0, 1, 2);
        Due.is("of a new object", 0, mill.begin());
        Due.is("it goes on", 1, mill.count(0));
        mill.tick(6, 200);
        Due.is("still", 1, mill.count(0));
        Due.is("finish", -1, mill.finish());
        Due.file("FILE 0 stays", mill, 0, 1, 2);
        Due.copyJob(mill, 0, 0, -1, 1, 1);
        mill.drop(0);
        Due.is("when all are dropped", 0, mill.begin());
        Due.is("finish", -1, mill.finish());
        Due.is("nothing is made", 0, mill.size(1));
    }

    private static void howMany() {
        ShuffleMill mill = new ShuffleMill();
        for (int j = 0; j < 8; j++) {
            Due.copyJob(mill, j, 15, 14, j, 1);
            Due.is("JOBS", j + 1, mill.begin());
            Due.is("finish", -1, mill.finish());
        }
        mill.drop(3);
        Due.is("JOBS", 7, mill.begin());
    }

    private static void again() {
        ShuffleMill mill = new ShuffleMill();
        mill.record(0, 1, 1);
        Due.copyJob(mill, 0, 0, 2, 1, 1);
        Due.copyJob(mill, 1, 1, -1, 3, 1);
        for (int run = 1; run <= 5; run++) {
            Due.is("begin", 2, mill.begin());
            Due.is("RUNS", run, mill.count(3));
            Due.is("finish", -1, mill.finish());
            Due.is("what is made", run, mill.size(3));
            mill.record(0, run + 1, run + 1);
        }
        Due.give(mill, 0, Due.MAP, 13, 0);
        Due.is("one that FAILS", 0, Due.runAlone(mill));
        Due.is("begin behind it", 2, mill.begin());
        Due.is("RUNS", 7, mill.count(3));
    }

    /**
     * The first RUN stands still, or is over, with much on the line and on the disks; behind it the same JOB, mended,
     * is run with other RECORDS.
     */
    private static void nothingLeft() {
        for (int rounds = 1; rounds <= 12; rounds++) {
            for (int fails = 0; fails <= 1; fails++) {
                ShuffleMill mill = new ShuffleMill();
                for (int i = 0; i < 40; i++) {
                    mill.record(0, i, i);
                }
                Due.copyJob(mill, 0, 0, -1, 1, 2);
                if (fails == 1) {
                    // the call for KEY 2 divides by 0
                    Due.give(mill, 0, Due.MAP, 0, 1, 1, 0, 0, 2, 7, 0, 9, 0, 13, 0, 1, 0, 2, 0, 17, 0);
                }
                mill.begin();
                for (int i = 0; i < 7 * rounds; i++) {
                    mill.tick(i % 7, 4);
                }
                for (int w = 0; w < 6; w++) {
                    mill.tick(w, 30);
                }
                Due.is("the first RUN", fails == 1 ? 0 : -1, mill.finish());
                mill.clear(0);
                for (int i = 0; i < 36; i++) {
                    mill.record(0, 35 - i, 100 + i);
                }
                Due.give(mill, 0, Due.MAP, Due.COPY);
                mill.begin();
                for (int i = 0; i < 14; i++) {
                    mill.tick(6 - i % 7, 2);
                    Due.is("check", 0, mill.check());
                }
                Due.is("the second RUN", -1, mill.finish());
                Due.is("size", 36, mill.size(1));
                for (int i = 0; i < 18; i++) {
                    Due.is("VALUE of an even KEY", 135 - 2 * i, mill.told(1, i, true));
                    Due.is("VALUE of an odd KEY", 134 - 2 * i, mill.told(1, 18 + i, true));
                }
            }
        }
    }

    private static void running() {
        Twins.badState("in the middle", Twins::running, ShuffleMill::begin);
        Twins.badState("without JOBS", ShuffleMill::begin, ShuffleMill::begin);
        Twins.badState("when all is done but finish", mill -> {
            Twins.rest(mill);
            mill.begin();
            for (int i = 0; i < 70; i++) {
                mill.tick(i % 7, 200);
            }
        }, ShuffleMill::begin);
    }

    private static void cannot(java.util.function.Consumer<ShuffleMill> spoil) {
        Twins.refuses("begin", UnsupportedOperationException.class, mill -> {
            prepared(mill);
            spoil.accept(mill);
        }, ShuffleMill::begin);
        Twins.refuses("begin, behind another RUN", UnsupportedOperationException.class, mill -> {
            prepared(mill);
            mill.begin();
            mill.finish();
            spoil.accept(mill);
        }, ShuffleMill::begin);
        ShuffleMill mill = new ShuffleMill();
        prepared(mill);
        spoil.accept(mill);
        Due.thrown("begin", UnsupportedOperationException.class, mill::begin);
        Due.is("it does not go on", 0, mill.count(0));
        Due.is("RUNS", 0, mill.count(3));
        Due.is("record", 2, mill.record(15, 9, 10));
        mill.drop(6);
        Due.is("when it is mended", -1, Due.runAlone(mill));
        Due.is("RUNS", 1, mill.count(3));
        Due.yes("the OUTPUT is made", mill.size(1) > 1);
    }

    /** Nothing is put together, so that PROGRAMS can be. */
    private static void prepared(ShuffleMill mill) {
        Twins.rest(mill);
        mill.program(4, Due.MAP);
    }
}
