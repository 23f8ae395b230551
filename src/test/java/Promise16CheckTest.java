/** check: always 0, at each step of a RUN with troubles. */
final class Promise16CheckTest {
    public static void main(String[] args) {
        Due.is("check of a new object", 0, new ShuffleMill().check());
        Trials.compare("check in between", mill -> {
            for (int i = 0; i < 150; i++) {
                mill.tick(i % 7, 1 + i % 5);
                Due.is("check behind tick " + i, 0, mill.check());
                if (i % 10 == 0) {
                    mill.crash(i / 10 % 7);
                    mill.line(0x1111, 0x2222);
                    Due.is("check behind crash " + i, 0, mill.check());
                }
            }
        });
        ShuffleMill mill = new ShuffleMill();
        mill.record(0, 1, 1);
        Due.copyJob(mill, 0, 0, -1, 1, 1);
        Due.give(mill, 0, Due.REDUCE, 13, 0);
        mill.begin();
        Due.is("finish", 0, mill.finish());
        Due.is("check behind a JOB that FAILED", 0, mill.check());
        mill.job(0, 0, 0, 0, 1);
        Due.thrown("begin", UnsupportedOperationException.class, () -> mill.begin());
        Due.is("check behind a CHAIN that can not be run", 0, mill.check());
        mill.drop(0);
        mill.begin();
        Due.is("check of a RUN without JOBS", 0, mill.check());
        mill.finish();
        Due.end();
    }
}
