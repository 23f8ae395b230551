/** Terms 1, THE CHAIN: its order, and when it can not be run. */
final class Terms1ChainTest {
    public static void main(String[] args) {
        Due.test("all JOBS that are made", Terms1ChainTest::allMade);
        Due.test("each stands behind all whose OUTPUT it has as INPUT: the first one", () -> line(false));
        Due.test("each stands behind all whose OUTPUT it has as INPUT: the second one", () -> line(true));
        Due.test("behind all of them, if there are two", Terms1ChainTest::twoBefore);
        Due.test("of those that may stand next the one with the least number", Terms1ChainTest::leastNumber);
        Due.test("the least number, as soon as it may stand next", Terms1ChainTest::asSoonAsItMay);
        Due.test("an INPUT that no JOB makes is as it was", Terms1ChainTest::inputOfNone);
        Due.test("It can not be run, if there is no such order: a ring of two", () -> ring(2, false));
        Due.test("It can not be run, if there is no such order: a ring of three", () -> ring(3, true));
        Due.test("It can not be run, if there is no such order: a ring of all eight", () -> ring(8, false));
        Due.test("a ring behind other JOBS, and before others", Terms1ChainTest::ringAmongOthers);
        Due.test("two JOBS have one OUTPUT", Terms1ChainTest::oneOutput);
        Due.test("a JOB has its own OUTPUT as INPUT: the first one", () -> ownOutput(4, -1));
        Due.test("a JOB has its own OUTPUT as INPUT: the second one", () -> ownOutput(0, 4));
        Due.test("a JOB has its own OUTPUT as INPUT: both", () -> ownOutput(4, 4));
        Due.test("JOBS that are not made do not stand in the way", Terms1ChainTest::dropped);
        Due.end();
    }

    /**
     * JOBS with these INPUTS and OUTPUTS stand in this order: for each of them, when it FAILS, exactly those before
     * it have made their OUTPUTS. Rows are number, INPUTS, OUTPUT.
     */
    private static void order(int[][] rows, int... want) {
        for (int place = 0; place <= want.length; place++) {
            ShuffleMill mill = new ShuffleMill();
            mill.record(0, 1, 1);
            for (int[] row : rows) {
                Due.copyJob(mill, row[0], row[1], row[2], row[3], 1);
                mill.record(row[3], 50, row[0]);
                Due.give(mill, row[0], Due.MAP, 0, 2, 0, 100 + row[0], 17, 0);
                Due.give(mill, row[0], Due.REDUCE, 1, 0, 2, 0, 17, 0);
            }
            boolean all = place == want.length;
            if (!all) {
                Due.give(mill, want[place], Due.MAP, 13, 0);
            }
            Due.is("JOBS", want.length, mill.begin());
            Due.is("the one that FAILS", all ? -1 : want[place], mill.finish());
            for (int i = 0; i < want.length; i++) {
                int output = outputOf(rows, want[i]);
                Due.is("KEY by JOB " + want[i] + " if " + place + " go before", i < place ? 2 : 50,
                        mill.told(output, 0, false));
                Due.is("VALUE by JOB " + want[i] + " if " + place + " go before", i < place ? 100 + want[i] : want[i],
                        mill.told(output, 0, true));
            }
        }
    }

    private static int outputOf(int[][] rows, int j) {
        for (int[] row : rows) {
            if (row[0] == j) {
                return row[3];
            }
        }
        return -1;
    }

    private static void allMade() {
        order(new int[][] {});
        order(new int[][] {{3, 0, -1, 5}}, 3);
        order(new int[][] {{7, 0, -1, 1}, {6, 0, -1, 2}, {5, 0, -1, 3}, {4, 0, -1, 4}, {3, 0, -1, 5}, {2, 0, -1, 6},
            {1, 0, -1, 7}, {0, 0, -1, 8}}, 0, 1, 2, 3, 4, 5, 6, 7);
    }

    private static void line(boolean second) {
        int[][] rows = new int[8][];
        for (int i = 0; i < 8; i++) {
            rows[i] = second ? new int[] {7 - i, 0, i, i + 1} : new int[] {7 - i, i, -1, i + 1};
        }
        order(rows, 7, 6, 5, 4, 3, 2, 1, 0);
    }

    private static void twoBefore() {
        order(new int[][] {{0, 5, 6, 1}, {3, 0, -1, 5}, {7, 0, -1, 6}}, 3, 7, 0);
        order(new int[][] {{0, 6, 5, 1}, {3, 0, -1, 5}, {7, 0, -1, 6}}, 3, 7, 0);
        order(new int[][] {{1, 5, 5, 1}, {2, 1, 5, 2}, {6, 0, -1, 5}}, 6, 1, 2);
    }

    private static void leastNumber() {
        order(new int[][] {{2, 9, -1, 8}, {6, 0, -1, 10}, {7, 0, -1, 9}}, 6, 7, 2);
        order(new int[][] {{1, 0, -1, 8}, {2, 9, -1, 10}, {4, 0, -1, 11}, {7, 0, -1, 9}}, 1, 4, 7, 2);
    }

    /** Behind JOB 3, JOB 1 may stand next, before JOB 4, which might have stood there all the time. */
    private static void asSoonAsItMay() {
        order(new int[][] {{1, 5, -1, 6}, {3, 0, -1, 5}, {4, 0, -1, 7}}, 3, 1, 4);
        order(new int[][] {{0, 6, -1, 8}, {1, 5, -1, 6}, {3, 0, -1, 5}, {4, 0, -1, 7}}, 3, 1, 0, 4);
        order(new int[][] {{0, 7, 6, 8}, {1, 5, -1, 6}, {3, 0, -1, 5}, {4, 0, -1, 7}}, 3, 1, 4, 0);
    }

    private static void inputOfNone() {
        ShuffleMill mill = new ShuffleMill();
        mill.record(9, 1, 1);
        Due.copyJob(mill, 0, 9, 10, 11, 1);
        Due.copyJob(mill, 1, 11, 9, 12, 1);
        Due.is("finish", -1, Due.runAlone(mill));
        Due.file("twice", mill, 12, 1, 1, 1, 1);
    }

    private static void cannot(ShuffleMill mill) {
        Due.thrown("begin", UnsupportedOperationException.class, mill::begin);
        Due.is("it does not go on", 0, mill.count(0));
        Due.is("RUNS", 0, mill.count(3));
        Due.badState("finish", mill::finish);
    }

    private static void ring(int length, boolean second) {
        ShuffleMill mill = new ShuffleMill();
        for (int i = 0; i < length; i++) {
            int before = (i + length - 1) % length;
            Due.copyJob(mill, i, second ? 15 : before, second ? before : -1, i, 1);
        }
        cannot(mill);
        mill.job(length - 1, 14, -1, length - 1, 1);
        Due.is("without one that closes it", length, mill.begin());
        Due.is("finish", -1, mill.finish());
    }

    private static void ringAmongOthers() {
        ShuffleMill mill = new ShuffleMill();
        mill.record(0, 1, 1);
        Due.copyJob(mill, 0, 0, -1, 1, 1);
        Due.copyJob(mill, 1, 1, 3, 2, 1);
        Due.copyJob(mill, 2, 2, -1, 3, 1);
        Due.copyJob(mill, 3, 3, -1, 4, 1);
        cannot(mill);
        Due.is("JOB 0, before it, has made nothing", 0, mill.size(1));
        mill.drop(2);
        Due.is("begin without it", 3, mill.begin());
        Due.is("finish", -1, mill.finish());
        Due.file("of JOB 1", mill, 2, 1, 1);
    }

    private static void oneOutput() {
        int[][] both = {{0, 1}, {0, 7}, {6, 7}};
        for (int[] two : both) {
            ShuffleMill mill = new ShuffleMill();
            mill.record(0, 1, 1);
            Due.copyJob(mill, two[0], 0, -1, 5, 1);
            Due.copyJob(mill, two[1], 0, -1, 5, 1);
            cannot(mill);
            mill.job(two[1], 0, 5, 5, 1);
            cannot(mill);
            mill.job(two[1], 0, 5, 6, 1);
            Due.is("begin with two OUTPUTS", 2, mill.begin());
            Due.is("finish", -1, mill.finish());
            Due.file("the second", mill, 6, 1, 1, 1, 1);
        }
    }

    private static void ownOutput(int a, int b) {
        ShuffleMill mill = new ShuffleMill();
        Due.copyJob(mill, 3, a, b, 4, 1);
        cannot(mill);
        mill.job(3, a, b, 5, 1);
        Due.is("begin with another OUTPUT", 1, mill.begin());
    }

    private static void dropped() {
        ShuffleMill mill = new ShuffleMill();
        Due.copyJob(mill, 0, 0, -1, 1, 1);
        Due.copyJob(mill, 1, 1, -1, 0, 1);
        Due.copyJob(mill, 2, 0, -1, 1, 1);
        Due.copyJob(mill, 3, 3, -1, 3, 1);
        cannot(mill);
        mill.drop(3);
        cannot(mill);
        mill.drop(2);
        cannot(mill);
        mill.drop(1);
        Due.is("begin", 1, mill.begin());
    }
}
