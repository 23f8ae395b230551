/** check: always 0, at each step of a RUN with troubles. */
final class Promise16CheckTest {
    public static void main(String[] args) {
        Due.test("always 0: of a new object", () -> Due.is("check", 0, new ShuffleMill().check()));
        Due.test("always 0: behind each tick, crash and loss", Promise16CheckTest::troubles);
        Due.test("always 0: behind a JOB that FAILED", Promise16CheckTest::failed);
        Due.test("always 0: behind a CHAIN that can not be run", Promise16CheckTest::cannotBeRun);
        Due.test("always 0: of a RUN without JOBS", Promise16CheckTest::withoutJobs);
        Due.test("always 0: with full FILES", Promise16CheckTest::full);
        Due.test("it changes nothing", Promise16CheckTest::changesNothing);
        Due.end();
    }

    private static void troubles() {
        Trials.compare("check in between", mill -> {
            for (int i = 0; i < 120; i++) {
                mill.tick(i % 7, 1 + i % 5);
                Due.is("check behind tick " + i, 0, mill.check());
                if (i % 10 == 0) {
                    mill.crash(i / 10 % 7);
                    mill.line(0x1111, 0x2222);
                    Due.is("check behind crash " + i, 0, mill.check());
                }
            }
        });
    }

    private static ShuffleMill one() {
        ShuffleMill mill = new ShuffleMill();
        mill.record(0, 1, 1);
        Due.copyJob(mill, 0, 0, -1, 1, 1);
        return mill;
    }

    private static void failed() {
        ShuffleMill mill = one();
        Due.give(mill, 0, Due.REDUCE, 13, 0);
        mill.begin();
        for (int i = 0; i < 49; i++) {
            mill.tick(i % 7, 2);
            Due.is("check", 0, mill.check());
        }
        Due.is("finish", 0, mill.finish());
        Due.is("check behind it", 0, mill.check());
    }

    private static void cannotBeRun() {
        ShuffleMill mill = one();
        Due.is("finish", -1, Due.runAlone(mill));
        mill.job(0, 0, 0, 0, 1);
        Due.thrown("begin", UnsupportedOperationException.class, mill::begin);
        Due.is("check", 0, mill.check());
    }

    private static void withoutJobs() {
        ShuffleMill mill = one();
        Due.is("finish", -1, Due.runAlone(mill));
        Due.is("check behind a RUN", 0, mill.check());
        mill.drop(0);
        mill.begin();
        Due.is("check", 0, mill.check());
        mill.finish();
        Due.is("check", 0, mill.check());
    }

    private static void full() {
        ShuffleMill mill = new ShuffleMill();
        for (int i = 0; i < 300; i++) {
            mill.record(0, i, i);
        }
        Due.copyJob(mill, 0, 0, -1, 1, 6);
        mill.begin();
        for (int i = 0; i < 70; i++) {
            mill.tick(i % 7, 20);
            Due.is("check", 0, mill.check());
        }
        Due.is("finish", -1, mill.finish());
        Due.is("check", 0, mill.check());
    }

    private static void changesNothing() {
        ShuffleMill mill = one();
        mill.code(0, 0);
        for (int i = 0; i < 3; i++) {
            mill.check();
        }
        Due.is("put together", 1, mill.count(2));
        Due.is("size", 1, mill.size(0));
        mill.begin();
        mill.check();
        Due.is("it goes on", 1, mill.count(0));
        Due.is("finish", -1, mill.finish());
        Due.file("what is made", mill, 1, 1, 1);
    }
}
