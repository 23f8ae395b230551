import java.util.List;
import java.util.function.Consumer;

/** Terms 2: what THE RUN does, what it leaves alone, and what can not be done while it goes on. */
final class Terms2RunTest {
    private static final long[] TRAP = {13, 0};

    public static void main(String[] args) {
        Due.test("JOB by JOB, up to the first that FAILS", Terms2RunTest::upToTheFirst);
        Due.test("an OUTPUT takes the place of what the FILE had", Terms2RunTest::takesThePlace);
        Due.test("when its JOB is done, so that the next one reads it", Terms2RunTest::beforeTheNext);
        Due.test("of one that FAILS no FILE is changed: by MAP", Terms2RunTest::trapOfMap);
        Due.test("of one that FAILS no FILE is changed: by COMBINE", Terms2RunTest::trapOfCombine);
        Due.test("of one that FAILS no FILE is changed: by REDUCE", Terms2RunTest::trapOfReduce);
        Due.test("of one that FAILS no FILE is changed: by too many pairs", Terms2RunTest::tooManyPairs);
        Due.test("of one that FAILS no FILE is changed: by too many RECORDS", Terms2RunTest::tooManyRecords);
        Due.test("and those behind it: the first JOB FAILS", () -> failsAt(0));
        Due.test("and those behind it: one in the middle FAILS", () -> failsAt(4));
        Due.test("and those behind it: the last JOB FAILS", () -> failsAt(7));
        Due.test("ticks, crashes, losses and repeats change nothing of what comes of it", Terms2RunTest::troubles);
        Due.test("nor of which JOB FAILS", Terms2RunTest::troublesOfFailure);
        Due.test("While THE RUN goes on, FILES can not be seen", Terms2RunTest::notSeen);
        Due.test("While THE RUN goes on, FILES can not be changed", Terms2RunTest::notChanged);
        Due.test("nor PROGRAMS", Terms2RunTest::noPrograms);
        Due.test("nor JOBS", Terms2RunTest::noJobs);
        Due.test("finish ends it", Terms2RunTest::finishEnds);
        Due.test("finish ends it, and nothing else does", Terms2RunTest::nothingElseEnds);
        Due.test("(also what is put together stays)", Terms2RunTest::putTogetherStays);
        Due.test("takes the PROGRAMS that it has when THE RUN begins", Terms2RunTest::programsAtBegin);
        Due.end();
    }

    /** JOBS 0, 1 and 2 copy FILE 0 to 1, 1 and 5 to 2, 2 to 3, JOB 3 copies 0 to 4; OUTPUTS have a RECORD before. */
    private static ShuffleMill four(int records) {
        ShuffleMill mill = new ShuffleMill();
        for (int i = 0; i < records; i++) {
            mill.record(0, i, i);
        }
        for (int f = 1; f <= 5; f++) {
            mill.record(f, 100 + f, f);
        }
        Due.copyJob(mill, 0, 0, -1, 1, 2);
        Due.copyJob(mill, 1, 1, 5, 2, 3);
        Due.copyJob(mill, 2, 2, -1, 3, 1);
        Due.copyJob(mill, 3, 0, -1, 4, 1);
        return mill;
    }

    private static void upToTheFirst() {
        ShuffleMill mill = four(1);
        Due.give(mill, 1, Due.REDUCE, TRAP);
        Due.give(mill, 2, Due.REDUCE, TRAP);
        Due.is("finish", 1, Due.runAlone(mill));
        Due.file("JOB 0, before it, is done", mill, 1, 0, 0);
        Due.give(mill, 1, Due.REDUCE, Due.EACH);
        Due.is("finish when it is mended", 2, Due.runAlone(mill));
        Due.file("JOB 1 is done", mill, 2, 0, 0, 105, 5);
        Due.give(mill, 2, Due.REDUCE, Due.EACH);
        Due.is("finish when both are mended", -1, Due.runAlone(mill));
        Due.file("JOB 2 is done", mill, 3, 0, 0, 105, 5);
        Due.file("JOB 3 is done", mill, 4, 0, 0);
    }

    private static void takesThePlace() {
        ShuffleMill mill = new ShuffleMill();
        for (int i = 0; i < 5; i++) {
            mill.record(1, 9, 9);
        }
        mill.record(0, 3, 4);
        Due.copyJob(mill, 0, 0, -1, 1, 1);
        Due.is("finish", -1, Due.runAlone(mill));
        Due.file("a shorter one", mill, 1, 3, 4);
        Due.noFile("nothing of the old is left", () -> mill.told(1, 1, false));
        Due.is("finish", -1, Due.runAlone(mill));
        Due.file("one that is as long", mill, 1, 3, 4);
        mill.record(0, 5, 6);
        Due.is("finish", -1, Due.runAlone(mill));
        Due.file("a longer one", mill, 1, 3, 4, 5, 6);
        mill.clear(0);
        Due.is("finish", -1, Due.runAlone(mill));
        Due.is("an empty one", 0, mill.size(1));
        mill.record(0, 1, 1);
        Due.is("finish", -1, Due.runAlone(mill));
        Due.file("one in place of an empty one", mill, 1, 1, 1);
    }

    private static void beforeTheNext() {
        ShuffleMill mill = four(2);
        Due.is("finish", -1, Due.runAlone(mill));
        Due.file("of JOB 0", mill, 1, 0, 0, 1, 1);
        Due.file("of JOB 1, in three PARTS", mill, 2, 0, 0, 105, 5, 1, 1);
        Due.file("of JOB 2", mill, 3, 0, 0, 1, 1, 105, 5);
        Due.file("of JOB 3", mill, 4, 0, 0, 1, 1);
    }

    /** So many RECORDS are in FILE 0, and JOB 1 is changed so that it FAILS. */
    private static void unchanged(int records, Consumer<ShuffleMill> spoil) {
        ShuffleMill mill = four(records);
        spoil.accept(mill);
        Due.is("finish", 1, Due.runAlone(mill));
        Due.is("JOB 0, before it, is done", records, mill.size(1));
        Due.is("its INPUT", records, mill.size(0));
        Due.file("its OUTPUT", mill, 2, 102, 2);
        Due.file("the OUTPUT of one that needs it", mill, 3, 103, 3);
        Due.file("the OUTPUT of one that does not need it", mill, 4, 104, 4);
        Due.file("its second INPUT", mill, 5, 105, 5);
        for (int f = 6; f < 16; f++) {
            Due.is("size of FILE " + f, 0, mill.size(f));
        }
    }

    private static void trapOfMap() {
        unchanged(20, mill -> Due.give(mill, 1, Due.MAP, TRAP));
    }

    private static void trapOfCombine() {
        unchanged(20, mill -> Due.give(mill, 1, Due.COMBINE, TRAP));
    }

    /** For each KEY there is an EMIT; behind that for the KEY of FILE 5 comes a / by 0. */
    private static void trapOfReduce() {
        unchanged(20, mill -> Due.give(mill, 1, Due.REDUCE, 1, 0, 2, 0, 17, 0, 1, 0, 1, 0, 0, 105, 7, 0, 9, 0));
    }

    private static void tooManyPairs() {
        unchanged(260, mill -> {
            Due.give(mill, 1, Due.MAP, Calls.times(4, 1, 0, 2, 0, 17, 0));
            Due.give(mill, 1, Due.REDUCE, 18, 0);
        });
    }

    private static void tooManyRecords() {
        unchanged(80, mill -> Due.give(mill, 1, Due.REDUCE, Calls.times(4, 1, 0, 1, 0, 17, 0)));
    }

    /** Eight JOBS that have nothing to do with each other. */
    private static void failsAt(int at) {
        ShuffleMill mill = new ShuffleMill();
        mill.record(15, 1, 1);
        for (int j = 0; j < 8; j++) {
            mill.record(j, 50, j);
            Due.copyJob(mill, j, 15, -1, j, 1);
        }
        Due.give(mill, at, Due.MAP, TRAP);
        Due.is("finish", at, Due.runAlone(mill));
        for (int j = 0; j < 8; j++) {
            Due.file("FILE " + j, mill, j, j < at ? 1 : 50, j < at ? 1 : j);
        }
    }

    private static void troubles() {
        Trials.compare("all of them", mill -> {
            for (int i = 0; i < 190; i++) {
                mill.tick(i % 7, 1 + i % 13);
                if (i % 9 == 0) {
                    mill.crash(i / 9 % 7);
                }
                if (i % 7 == 0) {
                    mill.line(0x1245 * i, 0x0421 * i);
                }
            }
        });
    }

    private static void troublesOfFailure() {
        for (int rounds = 0; rounds < 12; rounds++) {
            ShuffleMill mill = four(20);
            Due.give(mill, 1, Due.REDUCE, TRAP);
            mill.begin();
            for (int i = 0; i < 14 * rounds; i++) {
                mill.tick(i % 7, 5);
                if (i % 11 == 0) {
                    mill.crash(i / 11 % 7);
                    mill.line(0x2222, 0x4444);
                }
            }
            mill.crash(6);
            Due.is("finish", 1, mill.finish());
            Due.is("JOB 0 is done", 20, mill.size(1));
            Due.file("JOB 1 is not", mill, 2, 102, 2);
            Due.file("JOB 3 is not", mill, 4, 104, 4);
        }
    }

    /** When it has just begun, in the middle, when all is done but finish, when a JOB FAILED, and without JOBS. */
    private static List<ShuffleMill> goingOn() {
        ShuffleMill begun = four(20);
        begun.begin();
        ShuffleMill middle = four(20);
        middle.begin();
        ShuffleMill done = four(20);
        done.begin();
        ShuffleMill failed = four(20);
        Due.give(failed, 1, Due.MAP, TRAP);
        failed.begin();
        for (int i = 0; i < 98; i++) {
            middle.tick(i % 7, 1);
            done.tick(i % 7, 200);
            failed.tick(i % 7, 200);
        }
        ShuffleMill without = new ShuffleMill();
        without.begin();
        return List.of(begun, middle, done, failed, without);
    }

    private static void notSeen() {
        for (ShuffleMill mill : goingOn()) {
            for (int f = 0; f < 16; f++) {
                int at = f;
                Due.badState("size of " + f, () -> mill.size(at));
                Due.badState("told of " + f, () -> mill.told(at, 0, false));
                Due.badState("told of " + f, () -> mill.told(at, 300, true));
            }
        }
    }

    private static void notChanged() {
        for (ShuffleMill mill : goingOn()) {
            for (int f = 0; f < 16; f++) {
                int at = f;
                Due.badState("record of " + f, () -> mill.record(at, 0, 0));
                Due.badState("clear of " + f, () -> mill.clear(at));
            }
            mill.finish();
            Due.is("FILE 0", mill.count(1) == 0 ? 0 : 20, mill.size(0));
            Due.is("FILE 15", 0, mill.size(15));
        }
    }

    private static void noPrograms() {
        for (ShuffleMill mill : goingOn()) {
            Due.badState("code", () -> mill.code(18, 0));
            for (int j = 0; j < 8; j++) {
                int at = j;
                Due.badState("program", () -> mill.program(at, Due.COMBINE));
            }
            Due.is("none is put together", 0, mill.count(2));
        }
    }

    private static void noJobs() {
        for (ShuffleMill mill : goingOn()) {
            int made = mill.count(1);
            for (int j = 0; j < 8; j++) {
                int at = j;
                Due.badState("job", () -> mill.job(at, 0, -1, 8 + at, 1));
                Due.badState("drop", () -> mill.drop(at));
            }
            Due.badState("begin", mill::begin);
            Due.is("JOBS", made, mill.count(1));
        }
    }

    private static void finishEnds() {
        for (ShuffleMill mill : goingOn()) {
            Due.is("before", 1, mill.count(0));
            mill.finish();
            Due.is("behind", 0, mill.count(0));
            Due.badState("finish again", mill::finish);
            Due.badState("tick", () -> mill.tick(0, 1));
            Due.badState("crash", () -> mill.crash(0));
            Due.badState("line", () -> mill.line(0, 0));
            Due.is("size", 0, mill.size(9));
            Due.is("record", 1, mill.record(9, 3, 4));
            Due.is("told", 4, mill.told(9, 0, true));
            Due.is("clear", 1, mill.clear(9));
            Due.copyJob(mill, 7, 9, -1, 10, 1);
            Due.yes("drop", mill.drop(7));
            Due.is("begin", mill.count(1), mill.begin());
        }
    }

    private static void nothingElseEnds() {
        for (ShuffleMill mill : goingOn()) {
            for (int w = 0; w <= 6; w++) {
                mill.tick(w, 200);
                mill.crash(w);
                mill.line(0, 0);
                mill.check();
                Due.is("it goes on", 1, mill.count(0));
            }
        }
    }

    private static void putTogetherStays() {
        Twins.badState("code in THE RUN", Twins::running, mill -> mill.code(2, 0));
        Twins.badArgument("code 19", Twins::rest, mill -> mill.code(19, 0));
        Twins.badState("program in THE RUN", Twins::running, mill -> mill.program(1, Due.MAP));
        Twins.noSuch("program of JOB 8", Twins::rest, mill -> mill.program(8, Due.MAP));
        Twins.badArgument("program 3", Twins::rest, mill -> mill.program(1, 3));
        ShuffleMill mill = new ShuffleMill();
        mill.record(0, 1, 2);
        mill.code(1, 0);
        Due.noFile("program of JOB -1", () -> mill.program(-1, 0));
        mill.code(2, 0);
        Due.badArgument("a wrong op", () -> mill.code(-1, 0));
        Due.badState("job without PROGRAMS", () -> mill.job(0, 0, -1, 1, 1));
        mill.begin();
        Due.badState("code in THE RUN", () -> mill.code(13, 0));
        mill.finish();
        mill.code(17, 0);
        Due.is("all three are there", 3, mill.program(0, Due.MAP));
        Due.give(mill, 0, Due.REDUCE, Due.EACH);
        mill.job(0, 0, -1, 1, 1);
        Due.is("finish", -1, Due.runAlone(mill));
        Due.file("what they make", mill, 1, 1, 2);
    }

    private static void programsAtBegin() {
        ShuffleMill mill = new ShuffleMill();
        mill.record(0, 5, 1);
        mill.record(0, 5, 2);
        Due.copyJob(mill, 0, 0, -1, 1, 1);
        Due.give(mill, 0, Due.REDUCE, Due.SUM);
        Due.is("with another REDUCE", -1, Due.runAlone(mill));
        Due.file("the sum", mill, 1, 5, 3);
        Due.give(mill, 0, Due.COMBINE, 0, 10, 17, 0);
        Due.is("with a COMBINE", -1, Due.runAlone(mill));
        Due.file("what it says", mill, 1, 5, 10);
        Due.give(mill, 0, Due.COMBINE);
        Due.give(mill, 0, Due.MAP, 2, 0, 1, 0, 17, 0);
        Due.is("without it, and with another MAP", -1, Due.runAlone(mill));
        Due.file("KEYS and VALUES changed", mill, 1, 1, 5, 2, 5);
        mill.code(13, 0);
        Due.is("what is put together, but not given, says nothing", -1, Due.runAlone(mill));
        Due.file("as before", mill, 1, 1, 5, 2, 5);
    }
}
