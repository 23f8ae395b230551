import java.util.function.Consumer;

/** Terms 1, 'It FAILS if': a TRAP anywhere, 1000 pairs behind COMBINE and 300 RECORDS, met and passed by one. */
final class Terms1FailsTest {
    public static void main(String[] args) {
        Due.test("if a call has a TRAP: of MAP", () -> trapOf(Due.MAP));
        Due.test("if a call has a TRAP: of COMBINE", () -> trapOf(Due.COMBINE));
        Due.test("if a call has a TRAP: of REDUCE", () -> trapOf(Due.REDUCE));
        Due.test("the pairs of all SPLITS are more than 1000", Terms1FailsTest::manyPairs);
        Due.test("1000 pairs are put in order", Terms1FailsTest::orderOfAll);
        Due.test("of all SPLITS, not of one PART", Terms1FailsTest::manyPairsInParts);
        Due.test("(behind COMBINE), which makes more", Terms1FailsTest::moreBehindCombine);
        Due.test("(behind COMBINE), which makes fewer", Terms1FailsTest::fewerBehindCombine);
        Due.test("the OUTPUT's RECORDS more than 300: of one PART", () -> manyRecords(1));
        Due.test("the OUTPUT's RECORDS more than 300: of six PARTS", () -> manyRecords(6));
        Due.test("what the OUTPUT had does not count", Terms1FailsTest::fullBefore);
        Due.test("each JOB has these limits for itself", Terms1FailsTest::eachForItself);
        Due.test("the longest CHAIN of full FILES", Terms1FailsTest::eightJobs);
        Due.end();
    }

    /**
     * Ways to do the tasks: by all; by one WORKER, whose disk then takes all; and with a MASTER that must find in its
     * journal again and again how much there is.
     */
    private static void eachWay(String what, Consumer<ShuffleMill> fill, int want, int output) {
        way(what + ", by all", fill, want, output, mill -> { });
        way(what + ", by WORKER 4 alone", fill, want, output, mill -> {
            for (int i = 0; i < 70; i++) {
                mill.tick(4, 20);
                mill.tick(6, 1);
            }
        });
        way(what + ", with a MASTER that crashes", fill, want, output, mill -> {
            for (int i = 0; i < 15; i++) {
                mill.crash(6);
                mill.tick(6, 1);
                for (int w = 0; w < 6; w++) {
                    mill.tick(w, 40);
                }
                mill.tick(6, 1);
            }
        });
    }

    private static void way(String what, Consumer<ShuffleMill> fill, int want, int output,
            Consumer<ShuffleMill> ticks) {
        ShuffleMill mill = new ShuffleMill();
        mill.record(2, -7, -7);
        fill.accept(mill);
        mill.begin();
        ticks.accept(mill);
        Due.is(what, want, mill.finish());
        Due.is(what + ": check", 0, mill.check());
        if (want == -1) {
            Due.is(what + ": RECORDS", output, mill.size(2));
        } else {
            Due.file(what + ": the OUTPUT stays", mill, 2, -7, -7);
        }
    }

    /** Of 40 RECORDS with KEYS 0 to 39 the call for one divides by 0, wherever it stands. */
    private static void trapOf(int place) {
        for (int bad : new int[] {0, 15, 16, 31, 32, 39}) {
            ShuffleMill mill = new ShuffleMill();
            for (int key = 0; key < 40; key++) {
                mill.record(0, key, 1);
            }
            mill.record(1, -7, -7);
            Due.copyJob(mill, 5, 0, -1, 1, 3);
            Due.give(mill, 5, Due.COMBINE, 2, 0, 17, 0);
            long[] divide = {2, 0, 1, 0, 0, bad, 7, 0, 9, 0, 13, 0};
            long[] emit = place == Due.COMBINE ? Calls.code(0, 1, 17, 0) : Calls.code(1, 0, 0, 1, 17, 0);
            Due.give(mill, 5, place, Calls.join(divide, emit));
            Due.is("for KEY " + bad, 5, Due.runAlone(mill));
            Due.file("for KEY " + bad + ": the OUTPUT stays", mill, 1, -7, -7);
            mill.clear(0);
            for (int key = 0; key < 40; key++) {
                mill.record(0, key == bad ? 40 : key, 1);
            }
            Due.is("without KEY " + bad, -1, Due.runAlone(mill));
            Due.is("without KEY " + bad + ": RECORDS", 40, mill.size(1));
        }
    }

    /** Each of the first RECORDS makes four pairs, each of the others one, all of KEY 1. */
    private static void pairs(ShuffleMill mill, int fours, int ones) {
        records(mill, fours, ones);
        long[] emit = {0, 1, 1, 0, 17, 0};
        Due.give(mill, 0, Due.MAP, Calls.join(emit, Calls.code(2, 0, 16, 14), Calls.times(3, emit)));
        Due.give(mill, 0, Due.REDUCE, 1, 0, 2, 0, 17, 0);
        mill.job(0, 0, -1, 2, 1);
    }

    /** VALUE 1 for the first ones, 0 for the others; each KEY once. */
    private static void records(ShuffleMill mill, int fours, int ones) {
        for (int i = 0; i < fours + ones; i++) {
            mill.record(0, i, i < fours ? 1 : 0);
        }
    }

    private static void manyPairs() {
        eachWay("999 pairs", mill -> pairs(mill, 249, 3), -1, 1);
        eachWay("1000 pairs", mill -> pairs(mill, 250, 0), -1, 1);
        eachWay("1001 pairs", mill -> pairs(mill, 250, 1), 0, 0);
        eachWay("1200 pairs", mill -> pairs(mill, 300, 0), 0, 0);
    }

    /** As many pairs, of four KEYS in four PARTS. */
    private static void pairsInParts(ShuffleMill mill, int fours, int ones) {
        records(mill, fours, ones);
        Due.give(mill, 0, Due.MAP, 0, 0, 1, 0, 17, 0, 2, 0, 16, 14, 0, 1, 1, 0, 17, 0, 0, 2, 1, 0, 17, 0,
                0, 3, 1, 0, 17, 0);
        Due.give(mill, 0, Due.REDUCE, 1, 0, 2, 0, 17, 0);
        mill.job(0, 0, -1, 2, 4);
    }

    private static void manyPairsInParts() {
        eachWay("1000 pairs in four PARTS", mill -> pairsInParts(mill, 250, 0), -1, 4);
        eachWay("1001 pairs in four PARTS", mill -> pairsInParts(mill, 250, 1), 0, 0);
    }

    /** MAP makes one pair of each RECORD, COMBINE four of each of the first KEYS, and one of each other. */
    private static void combinedPairs(ShuffleMill mill, int fours, int ones) {
        records(mill, fours, ones);
        Due.give(mill, 0, Due.MAP, Due.COPY);
        Due.give(mill, 0, Due.COMBINE, 0, 5, 17, 0, 2, 0, 16, 10, 0, 6, 17, 0, 0, 7, 17, 0, 0, 8, 17, 0);
        Due.give(mill, 0, Due.REDUCE, 2, 0, 13, 0, 1, 0, 0, 2, 10, 0, 16, 9, 1, 0, 1, 0, 17, 0);
        mill.job(0, 0, -1, 2, 3);
    }

    private static void moreBehindCombine() {
        eachWay("1000 pairs of 250", mill -> combinedPairs(mill, 250, 0), -1, 2);
        eachWay("1000 pairs of 253", mill -> combinedPairs(mill, 249, 4), -1, 2);
        eachWay("1001 pairs of 251", mill -> combinedPairs(mill, 250, 1), 0, 0);
    }

    /** 1200 pairs of MAP are of one KEY, so COMBINE makes one of each SPLIT. */
    private static void fewerBehindCombine() {
        eachWay("19 pairs of 1200", mill -> {
            records(mill, 0, 300);
            Due.give(mill, 0, Due.MAP, Calls.times(4, 0, 1, 2, 0, 17, 0));
            Due.give(mill, 0, Due.COMBINE, 2, 0, 17, 0);
            Due.give(mill, 0, Due.REDUCE, Due.SUM);
            mill.job(0, 0, -1, 2, 2);
        }, -1, 1);
        eachWay("no pair of 1200", mill -> {
            records(mill, 0, 300);
            Due.give(mill, 0, Due.MAP, Calls.times(4, 1, 0, 2, 0, 17, 0));
            Due.give(mill, 0, Due.COMBINE, 18, 0);
            Due.give(mill, 0, Due.REDUCE, Due.SUM);
            mill.job(0, 0, -1, 2, 2);
        }, -1, 0);
    }

    /** REDUCE emits four for each of the first KEYS, one for each other. */
    private static void outputs(ShuffleMill mill, int fours, int ones, int parts) {
        records(mill, fours, ones);
        Due.give(mill, 0, Due.MAP, Due.COPY);
        long[] emit = {1, 0, 1, 0, 17, 0};
        Due.give(mill, 0, Due.REDUCE, Calls.join(emit, Calls.code(2, 0, 16, 14), Calls.times(3, emit)));
        mill.job(0, 0, -1, 2, parts);
    }

    private static void manyRecords(int parts) {
        eachWay("299 RECORDS", mill -> outputs(mill, 74, 3, parts), -1, 299);
        eachWay("300 RECORDS", mill -> outputs(mill, 75, 0, parts), -1, 300);
        eachWay("300 RECORDS by ones", mill -> outputs(mill, 0, 300, parts), -1, 300);
        eachWay("301 RECORDS", mill -> outputs(mill, 75, 1, parts), 0, 0);
    }

    private static void fullBefore() {
        ShuffleMill mill = new ShuffleMill();
        outputs(mill, 75, 0, 2);
        for (int i = 0; i < 3; i++) {
            Due.is("finish", -1, Due.runAlone(mill));
            Due.is("size", 300, mill.size(2));
        }
    }

    /** Three JOBS, each with 1000 pairs of KEYS that come the other way round, and 250 RECORDS. */
    private static void eachForItself() {
        eachWay("three JOBS with 1000 pairs", mill -> {
            for (int i = 0; i < 250; i++) {
                mill.record(0, 250 - i, 1);
            }
            for (int j = 0; j < 3; j++) {
                Due.give(mill, j, Due.MAP, Calls.times(4, 1, 0, 2, 0, 17, 0));
                Due.give(mill, j, Due.REDUCE, Due.SUM);
                mill.job(j, 0, -1, 4 - j, 1);
            }
        }, -1, 250);
    }

    /** All 1000 pairs are of one PART, those of the last SPLIT being the first in order. */
    private static void orderOfAll() {
        ShuffleMill mill = new ShuffleMill();
        for (int i = 0; i < 250; i++) {
            mill.record(0, 250 - i, i);
        }
        Due.give(mill, 0, Due.MAP, Calls.times(4, 1, 0, 2, 0, 17, 0));
        Due.give(mill, 0, Due.REDUCE, Due.SUM);
        mill.job(0, 0, -1, 1, 1);
        Due.is("finish", -1, Due.runAlone(mill));
        Due.is("KEYS", 250, mill.size(1));
        for (int i = 0; i < 200; i++) {
            Due.is("KEY " + i, i + 1, mill.told(1, i, false));
        }
    }

    /** Each JOB doubles what the one before it made of 300 RECORDS. */
    private static void eightJobs() {
        ShuffleMill mill = new ShuffleMill();
        for (int i = 0; i < 300; i++) {
            mill.record(0, i - 150, 1);
        }
        for (int j = 0; j < 8; j++) {
            Due.give(mill, 7 - j, Due.MAP, Due.COPY);
            Due.give(mill, 7 - j, Due.REDUCE, Due.SUM);
            mill.job(7 - j, j, j, j + 1, 1);
        }
        Due.is("eight JOBS", 8, mill.begin());
        Due.is("their end", -1, mill.finish());
        Due.is("the last FILE", 300, mill.size(8));
        Due.is("its first KEY", -150, mill.told(8, 0, false));
        Due.is("its last VALUE", 256, mill.told(8, 299, true));
    }
}
