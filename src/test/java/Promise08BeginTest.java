/** begin: THE RUN begins, with THE CHAIN in its order. */
final class Promise08BeginTest {
    public static void main(String[] args) {
        states();
        chainsThatCanNotBeRun();
        orderByNeed();
        leastNumberFirst();
        Due.end();
    }

    private static void states() {
        ShuffleMill mill = new ShuffleMill();
        Due.is("without JOBS", 0, mill.begin());
        Due.is("it goes on", 1, mill.count(0));
        Due.badState("begin again", () -> mill.begin());
        Due.is("still", 1, mill.count(0));
        mill.finish();
        for (int j = 0; j < 8; j++) {
            Due.copyJob(mill, j, 15, 14, j, 1);
        }
        Due.is("eight JOBS", 8, mill.begin());
        Due.badState("begin again", () -> mill.begin());
        Due.is("its end", -1, mill.finish());
        Due.is("begin behind it", 8, mill.begin());
    }

    private static void chainsThatCanNotBeRun() {
        ShuffleMill mill = new ShuffleMill();
        mill.record(0, 1, 1);
        Due.copyJob(mill, 0, 0, -1, 1, 1);
        Due.copyJob(mill, 1, 0, -1, 1, 1);
        cannot("two JOBS with one OUTPUT", mill);
        mill.job(1, 0, 2, 2, 1);
        cannot("its own OUTPUT as second INPUT", mill);
        mill.job(1, 2, 0, 2, 1);
        cannot("its own OUTPUT as INPUT", mill);
        mill.job(1, 1, -1, 0, 1);
        cannot("two JOBS in a ring", mill);
        mill.job(1, 1, -1, 2, 1);
        Due.copyJob(mill, 2, 5, 2, 0, 1);
        cannot("three JOBS in a ring", mill);
        Due.file("FILES stay", mill, 0, 1, 1);
        Due.is("no RUN was begun", 0, mill.count(3));
        mill.job(2, 5, 3, 0, 1);
        Due.is("no ring", 3, mill.begin());
    }

    private static void cannot(String what, ShuffleMill mill) {
        Due.thrown(what, UnsupportedOperationException.class, () -> mill.begin());
        Due.is(what + ": it does not go on", 0, mill.count(0));
        Due.badState(what + ": finish", () -> mill.finish());
    }

    /** JOB 5 makes what JOB 3 reads, JOB 3 what JOB 0 reads. */
    private static void orderByNeed() {
        ShuffleMill mill = new ShuffleMill();
        mill.record(10, 7, 1);
        mill.record(1, 0, 0);
        mill.record(2, 0, 0);
        plusOne(mill, 0, 2, 3);
        plusOne(mill, 3, 1, 2);
        plusOne(mill, 5, 10, 1);
        Due.is("three JOBS", 3, mill.begin());
        Due.is("their end", -1, mill.finish());
        Due.file("of JOB 5", mill, 1, 7, 2);
        Due.file("of JOB 3", mill, 2, 7, 3);
        Due.file("of JOB 0", mill, 3, 7, 4);
    }

    private static void plusOne(ShuffleMill mill, int j, int from, int to) {
        Due.give(mill, j, Due.MAP, 1, 0, 2, 0, 0, 1, 6, 0, 17, 0);
        Due.give(mill, j, Due.REDUCE, Due.EACH);
        mill.job(j, from, -1, to, 1);
    }

    /** Which of two JOBS that FAIL stood first tells the order. */
    private static void leastNumberFirst() {
        ShuffleMill mill = new ShuffleMill();
        mill.record(0, 1, 1);
        for (int j = 0; j < 8; j++) {
            Due.copyJob(mill, j, 0, -1, 8 + j, 1);
        }
        long[] trap = {13, 0};
        Due.give(mill, 6, Due.MAP, trap);
        Due.give(mill, 2, Due.REDUCE, trap);
        Due.is("the least number that FAILS", 2, Due.runAlone(mill));
        Due.is("before it all is done", 1, mill.size(9));
        Due.is("it did nothing", 0, mill.size(10));
        Due.is("behind it nothing is done", 0, mill.size(11));
        mill.job(2, 15, -1, 10, 1);
        Due.is("JOB 2 waits for JOB 7 now, so JOB 6 is first", 6, Due.runAlone(mill));
        Due.is("JOB 5 was before it", 1, mill.size(13));
        Due.is("JOB 2 was not", 0, mill.size(10));
        Due.is("JOB 7 was not", 0, mill.size(15));
        mill.drop(6);
        Due.is("JOB 2 is behind JOB 7", 2, Due.runAlone(mill));
        Due.is("JOB 7 was before it", 1, mill.size(15));
    }
}
