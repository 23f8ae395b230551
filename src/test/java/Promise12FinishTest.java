/** finish: ends THE RUN, and tells the JOB that FAILED. What JOBS make is tested with Terms 1 and 2. */
final class Promise12FinishTest {
    public static void main(String[] args) {
        Due.test("All go on in turn till THE RUN is over", Promise12FinishTest::goOn);
        Due.test("nothing more is lost", Promise12FinishTest::nothingLost);
        Due.test("the JOB that FAILED", Promise12FinishTest::failed);
        Due.test("-1 if none did", Promise12FinishTest::noneFailed);
        Due.test("IllegalStateException if it does not go on", Promise12FinishTest::noRun);
        Due.end();
    }

    private static void goOn() {
        ShuffleMill mill = new ShuffleMill();
        for (int i = 0; i < 40; i++) {
            mill.record(0, i, i);
        }
        for (int j = 0; j < 8; j++) {
            Due.copyJob(mill, j, j, -1, j + 1, 6);
        }
        mill.begin();
        Due.is("without a tick", -1, mill.finish());
        Due.is("the last JOB is done", 40, mill.size(8));
        Due.is("it is over", 0, mill.count(0));
        mill.begin();
        for (int i = 0; i < 70; i++) {
            mill.tick(i % 7, 200);
        }
        Due.is("behind many ticks", -1, mill.finish());
        Due.is("the last JOB is done", 40, mill.size(8));
    }

    private static void nothingLost() {
        ShuffleMill mill = new ShuffleMill();
        mill.record(0, 1, 2);
        Due.copyJob(mill, 0, 0, -1, 1, 6);
        mill.begin();
        mill.line(0xFFFF, 0);
        Due.is("behind a line that loses all", -1, mill.finish());
        Due.file("it is made", mill, 1, 1, 2);
    }

    private static void failed() {
        for (int j = 0; j < 8; j++) {
            ShuffleMill mill = new ShuffleMill();
            mill.record(15, 1, 1);
            for (int k = 0; k < 8; k++) {
                Due.copyJob(mill, k, 15, -1, k, 1);
            }
            Due.give(mill, j, j % 3, 13, 0);
            Due.is("JOB " + j, j, Due.runAlone(mill));
            Due.is("again", j, Due.runAlone(mill));
            mill.drop(j);
            Due.is("without it", -1, Due.runAlone(mill));
        }
        ShuffleMill mill = new ShuffleMill();
        mill.record(0, 1, 1);
        Due.copyJob(mill, 2, 7, -1, 8, 1);
        Due.copyJob(mill, 6, 0, -1, 7, 1);
        Due.give(mill, 2, Due.MAP, 13, 0);
        Due.is("its number, not its place", 2, Due.runAlone(mill));
        Due.give(mill, 6, Due.MAP, 13, 0);
        Due.is("the first in THE CHAIN, not the least number", 6, Due.runAlone(mill));
    }

    private static void noneFailed() {
        ShuffleMill mill = new ShuffleMill();
        mill.begin();
        Due.is("without JOBS", -1, mill.finish());
        Due.copyJob(mill, 0, 0, -1, 1, 1);
        mill.begin();
        Due.is("without RECORDS", -1, mill.finish());
        mill.record(0, 1, 1);
        mill.begin();
        Due.is("with one", -1, mill.finish());
    }

    private static void noRun() {
        for (var state : Twins.STILL) {
            Twins.badState("finish", state, ShuffleMill::finish);
        }
        ShuffleMill mill = new ShuffleMill();
        mill.begin();
        mill.finish();
        Due.badState("finish twice", mill::finish);
    }
}
