/** finish: ends THE RUN, and tells the JOB that FAILED; what a JOB makes of SPLITS, KEYS and PARTS. */
final class Promise12FinishTest {
    public static void main(String[] args) {
        states();
        upToTheFirstThatFails();
        outputTakesThePlace();
        splits();
        combineOfEachSplit();
        valuesInTheirOrder();
        reduceEmitsOtherKeys();
        Due.end();
    }

    private static void states() {
        ShuffleMill mill = new ShuffleMill();
        Due.badState("finish without THE RUN", () -> mill.finish());
        mill.begin();
        Due.is("without JOBS", -1, mill.finish());
        Due.is("it does not go on", 0, mill.count(0));
        Due.badState("finish again", () -> mill.finish());
    }

    private static void upToTheFirstThatFails() {
        ShuffleMill mill = new ShuffleMill();
        mill.record(0, 1, 1);
        for (int f = 1; f <= 4; f++) {
            mill.record(f, 100 + f, f);
        }
        Due.copyJob(mill, 0, 0, -1, 1, 1);
        Due.copyJob(mill, 1, 1, -1, 2, 1);
        Due.copyJob(mill, 2, 2, -1, 3, 1);
        Due.copyJob(mill, 3, 0, -1, 4, 1);
        Due.give(mill, 1, Due.REDUCE, 1, 0, 1, 0, 17, 0, 13, 0);
        Due.is("JOB 1 FAILS behind an EMIT", 1, Due.runAlone(mill));
        Due.file("the one before is done", mill, 1, 1, 1);
        Due.file("its own OUTPUT stays", mill, 2, 102, 2);
        Due.file("that of one behind it stays", mill, 3, 103, 3);
        Due.file("that of one that does not need it stays", mill, 4, 104, 4);
        Due.give(mill, 1, Due.REDUCE, Due.EACH);
        Due.is("mended", -1, Due.runAlone(mill));
        Due.file("JOB 1", mill, 2, 1, 1);
        Due.file("JOB 2", mill, 3, 1, 1);
        Due.file("JOB 3", mill, 4, 1, 1);
    }

    private static void outputTakesThePlace() {
        ShuffleMill mill = new ShuffleMill();
        for (int i = 0; i < 5; i++) {
            mill.record(1, 9, 9);
        }
        mill.record(0, 3, 4);
        Due.copyJob(mill, 0, 0, -1, 1, 2);
        Due.is("finish", -1, Due.runAlone(mill));
        Due.file("nothing of the old is left", mill, 1, 3, 4);
        Due.is("finish again", -1, Due.runAlone(mill));
        Due.file("the same again", mill, 1, 3, 4);
        mill.clear(0);
        Due.is("finish of nothing", -1, Due.runAlone(mill));
        Due.is("an empty OUTPUT takes the place too", 0, mill.size(1));
    }

    /** SPLITS go over the border of two FILES: with a COMBINE that emits its count, the counts show the cuts. */
    private static void splits() {
        ShuffleMill mill = new ShuffleMill();
        for (int i = 0; i < 10; i++) {
            mill.record(0, 1, i);
        }
        for (int i = 0; i < 23; i++) {
            mill.record(1, 1, i);
        }
        Due.copyJob(mill, 0, 0, 1, 2, 1);
        Due.give(mill, 0, Due.COMBINE,
                3, 0, 16, 9, 2, 0, 13, 0, 0, 1, 4, 1, 6, 0, 5, 1, 15, 0, 4, 1, 17, 0);
        Due.is("33 RECORDS", -1, Due.runAlone(mill));
        Due.file("SPLITS of 16, 16 and 1", mill, 2, 1, 16, 1, 16, 1, 1);
        mill.clear(1);
        for (int i = 0; i < 6; i++) {
            mill.record(1, 1, i);
        }
        Due.is("16 RECORDS", -1, Due.runAlone(mill));
        Due.file("one SPLIT of 16", mill, 2, 1, 16);
        mill.record(1, 1, 6);
        Due.is("17 RECORDS", -1, Due.runAlone(mill));
        Due.file("SPLITS of 16 and 1", mill, 2, 1, 16, 1, 1);
    }

    private static void combineOfEachSplit() {
        ShuffleMill mill = new ShuffleMill();
        for (int i = 0; i < 20; i++) {
            mill.record(0, i % 2, i);
        }
        Due.copyJob(mill, 0, 0, -1, 1, 2);
        Due.give(mill, 0, Due.COMBINE, Due.COMBINE_SUM);
        Due.is("sums", -1, Due.runAlone(mill));
        Due.file("a sum a KEY and SPLIT", mill, 1, 0, 56, 0, 34, 1, 64, 1, 36);
        Due.give(mill, 0, Due.COMBINE, 18, 0);
        Due.is("a COMBINE that emits nothing", -1, Due.runAlone(mill));
        Due.is("leaves nothing", 0, mill.size(1));
        Due.give(mill, 0, Due.COMBINE, 2, 0, 17, 0, 0, -1, 17, 0);
        Due.is("a COMBINE that emits two", -1, Due.runAlone(mill));
        Due.file("as they were emitted", mill, 1, 0, 0, 0, -1, 0, 16, 0, -1, 1, 1, 1, -1, 1, 17, 1, -1);
        Due.give(mill, 0, Due.COMBINE, 17, 0);
        Due.is("a COMBINE with a TRAP", 0, Due.runAlone(mill));
        mill.clear(0);
        Due.is("is not called without a KEY", -1, Due.runAlone(mill));
        Due.is("and makes nothing", 0, mill.size(1));
    }

    /** Of one KEY: by SPLIT, then as they were emitted, though each MAP emits for several KEYS. */
    private static void valuesInTheirOrder() {
        ShuffleMill mill = new ShuffleMill();
        for (int i = 0; i < 20; i++) {
            mill.record(0, -i, i);
        }
        Due.give(mill, 0, Due.MAP, 0, 7, 2, 0, 17, 0, 1, 0, 2, 0, 17, 0, 0, 7, 2, 0, 0, 1000, 6, 0, 17, 0);
        // REDUCE may emit but four: it keeps a sum in which the place of each VALUE counts
        Due.give(mill, 0, Due.REDUCE,
                3, 0, 16, 9, 4, 0, 0, 31, 8, 0, 2, 0, 6, 0, 5, 0, 15, 0, 1, 0, 4, 0, 17, 0);
        mill.job(0, 0, -1, 1, 1);
        Due.is("finish", -1, Due.runAlone(mill));
        long[] want = new long[42];
        for (int i = 0; i < 20; i++) {
            want[2 * i] = i - 19;
            want[2 * i + 1] = 19 - i;
            want[41] = (want[41] * 31 + i) * 31 + i + 1000;
        }
        want[40] = 7;
        Due.file("KEYS, and the VALUES of the last, in their order", mill, 1, want);
    }

    /** What REDUCE emits is not put in order again, nor cut into PARTS. */
    private static void reduceEmitsOtherKeys() {
        ShuffleMill mill = new ShuffleMill();
        for (int i = 0; i < 4; i++) {
            mill.record(0, i, i);
        }
        Due.give(mill, 0, Due.MAP, Due.COPY);
        Due.give(mill, 0, Due.REDUCE, 0, 0, 1, 0, 7, 0, 2, 0, 17, 0, 0, 50, 1, 0, 17, 0);
        mill.job(0, 0, -1, 1, 2);
        Due.is("finish", -1, Due.runAlone(mill));
        Due.file("as they come", mill, 1, 0, 0, 50, 0, -2, 2, 50, 2, -1, 1, 50, 1, -3, 3, 50, 3);
    }
}
