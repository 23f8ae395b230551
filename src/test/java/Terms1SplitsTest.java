/** Terms 1, 'What a JOB makes': SPLITS of 16, pairs in order, COMBINE of each SPLIT, PARTS, and REDUCE. */
final class Terms1SplitsTest {
    /** Of COMBINE: how many VALUES the KEY has in the SPLIT. */
    private static final long[] COUNT = {3, 0, 16, 9, 2, 0, 13, 0, 0, 1, 4, 1, 6, 0, 5, 1, 15, 0, 4, 1, 17, 0};
    /** Of REDUCE: the KEY, and a number that each VALUE and its place make. */
    private static final long[] PLACES = {3, 0, 16, 9, 4, 0, 0, 31, 8, 0, 2, 0, 6, 0, 5, 0, 15, 0, 1, 0, 4, 0, 17, 0};

    public static void main(String[] args) {
        Due.test("its INPUTS' RECORDS, one FILE behind the other", Terms1SplitsTest::oneBehindTheOther);
        Due.test("are cut into SPLITS of 16: one FILE", Terms1SplitsTest::splitsOfOne);
        Due.test("are cut into SPLITS of 16: over the border of two FILES", Terms1SplitsTest::splitsOfTwo);
        Due.test("are cut into SPLITS of 16: the most there can be", Terms1SplitsTest::splitsOfMost);
        Due.test("no RECORDS", Terms1SplitsTest::noRecords);
        Due.test("MAP is called for each RECORD", Terms1SplitsTest::mapOfEach);
        Due.test("the pairs are put in order by KEY", Terms1SplitsTest::orderByKey);
        Due.test("(those of one KEY as they were emitted): in a SPLIT", Terms1SplitsTest::asEmitted);
        Due.test("with a COMBINE that is called for each KEY of the SPLIT with its VALUES",
                Terms1SplitsTest::combineOfEachKey);
        Due.test("its pairs take their place", Terms1SplitsTest::combinedTakeThePlace);
        Due.test("PART (KEY mod PARTS, not below 0)", Terms1SplitsTest::partOfKey);
        Due.test("For each PART, in order", Terms1SplitsTest::partsInOrder);
        Due.test("by KEY, then SPLIT, then as they were emitted", Terms1SplitsTest::byKeyAndSplit);
        Due.test("REDUCE is called for each KEY with its VALUES", Terms1SplitsTest::reduceOfEachKey);
        Due.test("what it emits are the OUTPUT's RECORDS, as they come", Terms1SplitsTest::asTheyCome);
        Due.end();
    }

    /** All RECORDS of two FILES are of one KEY; what comes are the SPLITS' lengths. */
    private static void lengths(int first, int second, long... want) {
        ShuffleMill mill = new ShuffleMill();
        for (int i = 0; i < first; i++) {
            mill.record(0, 1, i);
        }
        for (int i = 0; i < second; i++) {
            mill.record(1, 1, i);
        }
        Due.copyJob(mill, 0, 0, second == 0 ? -1 : 1, 2, 1);
        Due.give(mill, 0, Due.COMBINE, COUNT);
        String what = first + " and " + second + " RECORDS";
        Due.is(what, -1, Due.runAlone(mill));
        long[] pairs = new long[2 * want.length];
        for (int i = 0; i < want.length; i++) {
            pairs[2 * i] = 1;
            pairs[2 * i + 1] = want[i];
        }
        Due.file(what, mill, 2, pairs);
    }

    private static void oneBehindTheOther() {
        ShuffleMill mill = new ShuffleMill();
        mill.record(9, 1, 10);
        mill.record(9, 1, 11);
        mill.record(4, 1, 20);
        Due.copyJob(mill, 0, 9, 4, 2, 1);
        Due.is("finish", -1, Due.runAlone(mill));
        Due.file("9 and 4", mill, 2, 1, 10, 1, 11, 1, 20);
        mill.job(0, 4, 9, 2, 1);
        Due.is("finish", -1, Due.runAlone(mill));
        Due.file("4 and 9", mill, 2, 1, 20, 1, 10, 1, 11);
        mill.job(0, 9, 9, 2, 1);
        Due.give(mill, 0, Due.REDUCE, PLACES);
        Due.is("finish", -1, Due.runAlone(mill));
        Due.file("9 twice", mill, 2, 1, ((10 * 31 + 11) * 31 + 10) * 31 + 11);
    }

    private static void splitsOfOne() {
        lengths(1, 0, 1);
        lengths(15, 0, 15);
        lengths(16, 0, 16);
        lengths(17, 0, 16, 1);
        lengths(32, 0, 16, 16);
        lengths(33, 0, 16, 16, 1);
    }

    private static void splitsOfTwo() {
        lengths(10, 5, 15);
        lengths(10, 6, 16);
        lengths(10, 7, 16, 1);
        lengths(16, 1, 16, 1);
        lengths(17, 15, 16, 16);
        lengths(0, 17, 16, 1);
        lengths(1, 32, 16, 16, 1);
    }

    /** REDUCE emits how many SPLITS there are, and the length of the last. */
    private static void splitsOfMost() {
        ShuffleMill mill = new ShuffleMill();
        for (int i = 0; i < 300; i++) {
            mill.record(0, 1, i);
        }
        Due.give(mill, 0, Due.MAP, Due.COPY);
        Due.give(mill, 0, Due.COMBINE, COUNT);
        Due.give(mill, 0, Due.REDUCE,
                3, 0, 16, 9, 2, 0, 5, 1, 4, 0, 0, 1, 6, 0, 5, 0, 15, 0, 4, 0, 4, 1, 17, 0);
        mill.job(0, 0, -1, 1, 1);
        Due.is("finish", -1, Due.runAlone(mill));
        Due.file("300 RECORDS: 19 SPLITS, the last of 12", mill, 1, 19, 12);
        mill.job(0, 0, 0, 1, 1);
        Due.is("finish", -1, Due.runAlone(mill));
        Due.file("600 RECORDS: 38 SPLITS, the last of 8", mill, 1, 38, 8);
    }

    private static void noRecords() {
        ShuffleMill mill = new ShuffleMill();
        mill.record(1, 5, 5);
        Due.copyJob(mill, 0, 0, -1, 1, 6);
        Due.is("one empty INPUT", -1, Due.runAlone(mill));
        Due.is("the OUTPUT is empty", 0, mill.size(1));
        mill.record(1, 5, 5);
        mill.job(0, 0, 2, 1, 1);
        Due.is("two empty INPUTS", -1, Due.runAlone(mill));
        Due.is("the OUTPUT is empty", 0, mill.size(1));
        mill.record(0, 7, 7);
        mill.job(0, 0, 2, 1, 1);
        Due.is("the second one empty", -1, Due.runAlone(mill));
        Due.file("the first", mill, 1, 7, 7);
        mill.job(0, 2, 0, 1, 1);
        Due.is("the first one empty", -1, Due.runAlone(mill));
        Due.file("the second", mill, 1, 7, 7);
        Due.give(mill, 0, Due.MAP, 18, 0);
        Due.is("a MAP that emits nothing", -1, Due.runAlone(mill));
        Due.is("the OUTPUT is empty", 0, mill.size(1));
    }

    private static void mapOfEach() {
        ShuffleMill mill = new ShuffleMill();
        for (int i = 0; i < 50; i++) {
            mill.record(0, i, 7);
        }
        Due.copyJob(mill, 0, 0, -1, 1, 1);
        Due.is("finish", -1, Due.runAlone(mill));
        Due.is("size", 50, mill.size(1));
        for (int i = 0; i < 50; i++) {
            Due.is("KEY", i, mill.told(1, i, false));
        }
    }

    private static void orderByKey() {
        ShuffleMill mill = new ShuffleMill();
        long[] keys = {3, Long.MAX_VALUE, -1, 0, Long.MIN_VALUE, 2, -2, 1};
        for (long key : keys) {
            mill.record(0, key, key);
        }
        Due.copyJob(mill, 0, 0, -1, 1, 1);
        Due.is("finish", -1, Due.runAlone(mill));
        Due.file("one PART", mill, 1, Long.MIN_VALUE, Long.MIN_VALUE, -2, -2, -1, -1, 0, 0, 1, 1, 2, 2, 3, 3,
                Long.MAX_VALUE, Long.MAX_VALUE);
    }

    /** 64 pairs of one SPLIT: KEYS 0 and 1 in turn, with VALUES that tell when they were emitted. */
    private static void asEmitted() {
        ShuffleMill mill = new ShuffleMill();
        for (int i = 0; i < 16; i++) {
            mill.record(0, i, 4 * i);
        }
        Due.give(mill, 0, Due.MAP, 0, 1, 2, 0, 17, 0, 0, 0, 2, 0, 0, 1, 6, 0, 17, 0,
                0, 1, 2, 0, 0, 2, 6, 0, 17, 0, 0, 0, 2, 0, 0, 3, 6, 0, 17, 0);
        Due.give(mill, 0, Due.REDUCE, PLACES);
        mill.job(0, 0, -1, 1, 1);
        long zero = 0;
        long one = 0;
        for (int i = 0; i < 64; i += 2) {
            one = one * 31 + i;
            zero = zero * 31 + i + 1;
        }
        Due.is("finish without COMBINE", -1, Due.runAlone(mill));
        Due.file("seen by REDUCE", mill, 1, 0, zero, 1, one);
        Due.give(mill, 0, Due.COMBINE, 3, 0, 16, 9, 4, 0, 0, 31, 8, 0, 2, 0, 6, 0, 5, 0, 15, 0, 4, 0, 17, 0);
        Due.is("finish with COMBINE", -1, Due.runAlone(mill));
        Due.file("seen by COMBINE", mill, 1, 0, zero, 1, one);
    }

    private static void combineOfEachKey() {
        ShuffleMill mill = new ShuffleMill();
        for (int i = 0; i < 20; i++) {
            mill.record(0, i % 2, i);
        }
        Due.copyJob(mill, 0, 0, -1, 1, 2);
        Due.give(mill, 0, Due.COMBINE, Due.COMBINE_SUM);
        Due.is("finish", -1, Due.runAlone(mill));
        Due.file("a sum for each KEY and SPLIT", mill, 1, 0, 56, 0, 34, 1, 64, 1, 36);
        mill.clear(0);
        Due.give(mill, 0, Due.COMBINE, 13, 0);
        Due.is("without a KEY it is not called", -1, Due.runAlone(mill));
    }

    private static void combinedTakeThePlace() {
        ShuffleMill mill = new ShuffleMill();
        for (int i = 0; i < 20; i++) {
            mill.record(0, i % 2, i);
        }
        Due.copyJob(mill, 0, 0, -1, 1, 2);
        Due.give(mill, 0, Due.COMBINE, 18, 0);
        Due.is("one that emits nothing", -1, Due.runAlone(mill));
        Due.is("leaves nothing", 0, mill.size(1));
        Due.give(mill, 0, Due.COMBINE, 2, 0, 17, 0, 0, -1, 17, 0);
        Due.is("one that emits two", -1, Due.runAlone(mill));
        Due.file("these two", mill, 1, 0, 0, 0, -1, 0, 16, 0, -1, 1, 1, 1, -1, 1, 17, 1, -1);
    }

    /** In one PART after another, and in each by KEY. */
    private static void partOfKey() {
        ShuffleMill mill = new ShuffleMill();
        long[] keys = {5, -1, 0, 3, -3, 2, 1, -2, 4, Long.MIN_VALUE, Long.MAX_VALUE, -6, 6, -7, 7};
        for (long key : keys) {
            mill.record(0, key, 2 * key);
        }
        Due.copyJob(mill, 2, 0, -1, 1, 1);
        order(mill, 1, Long.MIN_VALUE, -7, -6, -3, -2, -1, 0, 1, 2, 3, 4, 5, 6, 7, Long.MAX_VALUE);
        order(mill, 2, Long.MIN_VALUE, -6, -2, 0, 2, 4, 6, -7, -3, -1, 1, 3, 5, 7, Long.MAX_VALUE);
        order(mill, 3, -6, -3, 0, 3, 6, Long.MIN_VALUE, -2, 1, 4, 7, Long.MAX_VALUE, -7, -1, 2, 5);
        order(mill, 6, -6, 0, 6, 1, 7, Long.MAX_VALUE, 2, -3, 3, Long.MIN_VALUE, -2, 4, -7, -1, 5);
    }

    private static void order(ShuffleMill mill, int parts, long... keys) {
        mill.job(2, 0, -1, 1, parts);
        Due.is("finish", -1, Due.runAlone(mill));
        long[] pairs = new long[2 * keys.length];
        for (int i = 0; i < keys.length; i++) {
            pairs[2 * i] = keys[i];
            pairs[2 * i + 1] = 2 * keys[i];
        }
        Due.file(parts + " PARTS", mill, 1, pairs);
    }

    private static void partsInOrder() {
        ShuffleMill mill = new ShuffleMill();
        mill.record(0, 5, 1);
        mill.record(0, 10, 2);
        Due.copyJob(mill, 0, 0, -1, 1, 6);
        Due.is("PARTS 4 and 5 alone have pairs", -1, Due.runAlone(mill));
        Due.file("PART 4, then PART 5", mill, 1, 10, 2, 5, 1);
        mill.clear(0);
        mill.record(0, 12, 3);
        Due.is("PART 0 alone has pairs", -1, Due.runAlone(mill));
        Due.file("PART 0", mill, 1, 12, 3);
    }

    /** KEY 7 comes in all SPLITS, and another KEY from each RECORD, the later ones first in order. */
    private static void byKeyAndSplit() {
        long[] map = {0, 7, 2, 0, 17, 0, 1, 0, 2, 0, 17, 0};
        sevens("three SPLITS", 40, false, map);
        sevens("two SPLITS, and KEY 7 twice by each call", 20, true,
                Calls.join(map, Calls.code(0, 7, 2, 0, 0, 1000, 6, 0, 17, 0)));
    }

    private static void sevens(String what, int records, boolean twice, long[] map) {
        ShuffleMill mill = new ShuffleMill();
        long want = 0;
        for (int i = 0; i < records; i++) {
            mill.record(0, -i, i);
            want = want * 31 + i;
            want = twice ? want * 31 + i + 1000 : want;
        }
        Due.give(mill, 0, Due.MAP, map);
        Due.give(mill, 0, Due.REDUCE, PLACES);
        mill.job(0, 0, -1, 1, 1);
        Due.is(what + ": finish", -1, Due.runAlone(mill));
        Due.is(what + ": KEYS", records + 1, mill.size(1));
        Due.is(what + ": the first KEY", 1 - records, mill.told(1, 0, false));
        Due.is(what + ": the last KEY", 7, mill.told(1, records, false));
        Due.is(what + ": its VALUES in their order", want, mill.told(1, records, true));
    }

    private static void reduceOfEachKey() {
        ShuffleMill mill = new ShuffleMill();
        for (int i = 0; i < 40; i++) {
            mill.record(0, i % 3, 1L << i);
        }
        Due.copyJob(mill, 0, 0, -1, 1, 1);
        Due.give(mill, 0, Due.REDUCE, Due.SUM);
        long[] sums = new long[3];
        for (int i = 0; i < 40; i++) {
            sums[i % 3] += 1L << i;
        }
        Due.is("finish", -1, Due.runAlone(mill));
        Due.file("once for each", mill, 1, 0, sums[0], 1, sums[1], 2, sums[2]);
    }

    private static void asTheyCome() {
        ShuffleMill mill = new ShuffleMill();
        for (int i = 0; i < 4; i++) {
            mill.record(0, i, i);
        }
        Due.give(mill, 0, Due.MAP, Due.COPY);
        Due.give(mill, 0, Due.REDUCE, 0, 0, 1, 0, 7, 0, 2, 0, 17, 0, 0, 50, 1, 0, 17, 0);
        mill.job(0, 0, -1, 1, 2);
        Due.is("finish", -1, Due.runAlone(mill));
        Due.file("not put in order, nor cut into PARTS", mill, 1,
                0, 0, 50, 0, -2, 2, 50, 2, -1, 1, 50, 1, -3, 3, 50, 3);
        Due.give(mill, 0, Due.REDUCE, 1, 0, 0, 1, 6, 0, 2, 0, 17, 0, 0, -1, 1, 0, 17, 0);
        for (int parts = 1; parts <= 6; parts++) {
            mill.job(0, 0, -1, 1, parts);
            Due.is("KEYS of other PARTS", -1, Due.runAlone(mill));
            Due.is("size", 8, mill.size(1));
            for (int part = 0, i = 0; part < parts; part++) {
                for (int key = part; key < 4; key += parts, i += 2) {
                    Due.is("KEY and 1", key + 1, mill.told(1, i, false));
                    Due.is("-1", -1, mill.told(1, i + 1, false));
                    Due.is("the KEY", key, mill.told(1, i + 1, true));
                }
            }
        }
        Due.give(mill, 0, Due.REDUCE, 18, 0);
        Due.is("a REDUCE that emits nothing", -1, Due.runAlone(mill));
        Due.is("an empty OUTPUT", 0, mill.size(1));
    }
}
