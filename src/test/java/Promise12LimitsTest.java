import java.util.function.Consumer;

/** The limits of a JOB, met and passed by one: 1000 pairs behind COMBINE, 300 RECORDS, 600 RECORDS to read. */
final class Promise12LimitsTest {
    /** Ways to do the tasks: by all, and by one WORKER, whose disk then takes all. */
    private static void eachWay(String what, Consumer<ShuffleMill> fill, int want, int output) {
        way(what + ", by all", fill, want, output, mill -> { });
        way(what + ", by WORKER 4 alone", fill, want, output, mill -> {
            for (int i = 0; i < 70; i++) {
                mill.tick(4, 20);
                mill.tick(6, 1);
            }
        });
    }

    private static void way(String what, Consumer<ShuffleMill> fill, int want, int output,
            Consumer<ShuffleMill> trouble) {
        ShuffleMill mill = new ShuffleMill();
        fill.accept(mill);
        mill.begin();
        trouble.accept(mill);
        Due.is(what, want, mill.finish());
        Due.is(what + ": RECORDS", output, mill.size(2));
        Due.is(what + ": check", 0, mill.check());
    }

    public static void main(String[] args) {
        eachWay("1000 pairs", mill -> pairs(mill, 250, 0), -1, 1);
        eachWay("1001 pairs", mill -> pairs(mill, 250, 1), 0, 0);
        eachWay("1000 pairs and a COMBINE", mill -> combinedPairs(mill, 250), -1, 2);
        eachWay("1002 pairs and a COMBINE", mill -> combinedPairs(mill, 251), 0, 0);
        eachWay("1200 pairs before COMBINE", mill -> fewBehindCombine(mill), -1, 1);
        eachWay("300 RECORDS of one PART", mill -> records(mill, 75, 0, 1), -1, 300);
        eachWay("301 RECORDS of one PART", mill -> records(mill, 75, 1, 1), 0, 0);
        eachWay("300 RECORDS of six PARTS", mill -> records(mill, 75, 0, 6), -1, 300);
        eachWay("301 RECORDS of six PARTS", mill -> records(mill, 75, 1, 6), 0, 0);
        eachWay("600 RECORDS to read", mill -> longInputs(mill), -1, 300);
        eightJobs();
        Due.end();
    }

    /** Each of the first RECORDS makes four pairs, each of the others one. */
    private static void pairs(ShuffleMill mill, int fours, int ones) {
        for (int i = 0; i < fours; i++) {
            mill.record(0, i, 1);
        }
        for (int i = 0; i < ones; i++) {
            mill.record(0, i, 0);
        }
        long[] emit = {0, 1, 1, 0, 17, 0};
        for (int i = 0; i < 4; i++) {
            for (int k = 0; k < 6; k += 2) {
                mill.code((int) emit[k], emit[k + 1]);
            }
            if (i == 0) {
                mill.code(2, 0);
                mill.code(16, 14);
            }
        }
        mill.program(0, Due.MAP);
        Due.give(mill, 0, Due.REDUCE, 1, 0, 2, 0, 17, 0);
        mill.job(0, 0, -1, 2, 1);
    }

    /** COMBINE emits four pairs for each KEY, and no KEY comes twice in a SPLIT. */
    private static void combinedPairs(ShuffleMill mill, int records) {
        for (int i = 0; i < records; i++) {
            mill.record(0, i % 50, i);
        }
        Due.give(mill, 0, Due.MAP, Due.COPY);
        Due.give(mill, 0, Due.COMBINE, 2, 0, 12, 0, 12, 0, 12, 0, 17, 0, 17, 0, 17, 0, 17, 0);
        Due.give(mill, 0, Due.REDUCE, 1, 0, 0, 2, 10, 0, 16, 7, 1, 0, 2, 0, 17, 0);
        mill.job(0, 0, -1, 2, 3);
    }

    private static void fewBehindCombine(ShuffleMill mill) {
        for (int i = 0; i < 300; i++) {
            mill.record(0, i, 1);
        }
        Due.give(mill, 0, Due.MAP, 0, 1, 2, 0, 17, 0, 0, 1, 2, 0, 17, 0, 0, 1, 2, 0, 17, 0, 0, 1, 2, 0, 17, 0);
        Due.give(mill, 0, Due.COMBINE, 2, 0, 17, 0);
        Due.give(mill, 0, Due.REDUCE, Due.SUM);
        mill.job(0, 0, -1, 2, 2);
    }

    /** REDUCE emits four for each KEY below 1000, one for each other. */
    private static void records(ShuffleMill mill, int fours, int ones, int parts) {
        for (int i = 0; i < fours; i++) {
            mill.record(0, 7 * i, i);
        }
        for (int i = 0; i < ones; i++) {
            mill.record(0, 1000 + i, i);
        }
        Due.give(mill, 0, Due.MAP, Due.COPY);
        Due.give(mill, 0, Due.REDUCE, 1, 0, 1, 0, 17, 0, 1, 0, 0, 1000, 10, 0, 16, 16,
                1, 0, 1, 0, 17, 0, 1, 0, 1, 0, 17, 0, 1, 0, 1, 0, 17, 0);
        mill.job(0, 0, -1, 2, parts);
    }

    private static void longInputs(ShuffleMill mill) {
        for (int i = 0; i < 300; i++) {
            mill.record(0, i * 77 % 300, i);
        }
        Due.give(mill, 0, Due.MAP, Due.COPY);
        Due.give(mill, 0, Due.REDUCE, Due.SUM);
        mill.job(0, 0, 0, 2, 5);
    }

    /** The longest CHAIN: each JOB doubles what the one before it made of 300 RECORDS. */
    private static void eightJobs() {
        ShuffleMill mill = new ShuffleMill();
        for (int i = 0; i < 300; i++) {
            mill.record(0, i - 150, 1);
        }
        for (int j = 0; j < 8; j++) {
            Due.give(mill, 7 - j, Due.MAP, Due.COPY);
            Due.give(mill, 7 - j, Due.REDUCE, Due.SUM);
            mill.job(7 - j, j, j, j + 1, 1);
        }
        Due.is("eight JOBS", 8, mill.begin());
        Due.is("their end", -1, mill.finish());
        Due.is("the last FILE", 300, mill.size(8));
        Due.is("its first KEY", -150, mill.told(8, 0, false));
        Due.is("its last VALUE", 256, mill.told(8, 299, true));
    }
}
