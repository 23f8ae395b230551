/** drop: the JOB is none, its PROGRAMS stay. */
final class Promise07DropTest {
    public static void main(String[] args) {
        Due.test("JOB j is none", Promise07DropTest::none);
        Due.test("(its PROGRAMS stay)", Promise07DropTest::programsStay);
        Due.test("whether it was made", Promise07DropTest::whetherMade);
        Due.test("IndexOutOfBoundsException if there is none of 0 to 7", Promise07DropTest::noJob);
        Due.test("IllegalStateException if THE RUN goes on", Promise07DropTest::running);
        Due.end();
    }

    private static void none() {
        for (int j = 0; j < 8; j++) {
            ShuffleMill mill = new ShuffleMill();
            mill.record(15, 1, 2);
            for (int k = 0; k < 8; k++) {
                Due.copyJob(mill, k, 15, -1, k, 1);
            }
            mill.drop(j);
            Due.is("JOBS", 7, mill.count(1));
            Due.is("it is not made", 0, mill.count(10 + j));
            Due.is("begin", 7, mill.begin());
            Due.is("finish", -1, mill.finish());
            for (int k = 0; k < 8; k++) {
                Due.is("what JOB " + k + " made", k == j ? 0 : 1, mill.size(k));
            }
        }
    }

    private static void programsStay() {
        ShuffleMill mill = new ShuffleMill();
        mill.record(0, 1, 2);
        mill.record(0, 1, 3);
        Due.copyJob(mill, 7, 0, -1, 1, 1);
        Due.give(mill, 7, Due.COMBINE, Due.COMBINE_SUM);
        mill.code(0, 0);
        mill.drop(7);
        Due.is("its MAP", 3, mill.count(27));
        Due.is("its COMBINE", 9, mill.count(37));
        Due.is("its REDUCE", 6, mill.count(47));
        Due.is("what is put together", 1, mill.count(2));
        mill.job(7, 0, -1, 2, 1);
        Due.is("made again: finish", -1, Due.runAlone(mill));
        Due.file("made again", mill, 2, 1, 5);
    }

    private static void whetherMade() {
        ShuffleMill mill = new ShuffleMill();
        for (int j = 0; j < 8; j++) {
            Due.no("never made", mill.drop(j));
            Due.give(mill, j, Due.MAP, Due.COPY);
            Due.give(mill, j, Due.REDUCE, Due.EACH);
            Due.no("with PROGRAMS, but not made", mill.drop(j));
            mill.job(j, 0, -1, 1, 1);
            Due.yes("made", mill.drop(j));
            Due.no("dropped", mill.drop(j));
            mill.job(j, 0, -1, 1, 1);
            mill.job(j, 0, -1, 1, 1);
            Due.yes("made twice", mill.drop(j));
            Due.no("dropped", mill.drop(j));
        }
    }

    private static void noJob() {
        for (int j : new int[] {-1, 8, Integer.MIN_VALUE, Integer.MAX_VALUE}) {
            for (var state : Twins.ALL) {
                Twins.noSuch("JOB " + j, state, mill -> mill.drop(j));
            }
        }
    }

    private static void running() {
        Twins.badState("one that is made", Twins::running, mill -> mill.drop(0));
        Twins.badState("one that is not", Twins::running, mill -> mill.drop(7));
        ShuffleMill mill = new ShuffleMill();
        Due.copyJob(mill, 0, 0, -1, 1, 1);
        mill.begin();
        Due.badState("in THE RUN", () -> mill.drop(0));
        mill.finish();
        Due.yes("behind it", mill.drop(0));
    }
}
