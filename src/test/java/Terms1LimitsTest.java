/** Terms 1, the first paragraph: how many FILES, RECORDS, INSTRUCTIONS, JOBS, INPUTS and PARTS there are. */
final class Terms1LimitsTest {
    public static void main(String[] args) {
        Due.test("FILES 0 to 15", Terms1LimitsTest::files);
        Due.test("rows of RECORDS (KEY and VALUE, longs)", Terms1LimitsTest::longs);
        Due.test("RECORDS, at most 300: by record", Terms1LimitsTest::fullByRecord);
        Due.test("RECORDS, at most 300: by a JOB", Terms1LimitsTest::fullByJob);
        Due.test("at first empty", Terms1LimitsTest::empty);
        Due.test("A PROGRAM is a row of at most 40 INSTRUCTIONS", Terms1LimitsTest::longProgram);
        Due.test("a PROGRAM of one INSTRUCTION", Terms1LimitsTest::shortProgram);
        Due.test("A JOB 0 to 7", Terms1LimitsTest::jobs);
        Due.test("if it is made", Terms1LimitsTest::notMade);
        Due.test("a COMBINE (or none)", Terms1LimitsTest::combineOrNone);
        Due.test("one or two INPUTS (FILES)", Terms1LimitsTest::inputs);
        Due.test("PARTS (1 to 6)", Terms1LimitsTest::parts);
        Due.end();
    }

    private static void files() {
        ShuffleMill mill = new ShuffleMill();
        for (int f = 0; f <= 15; f++) {
            Due.is("record of FILE " + f, 1, mill.record(f, f, -f));
        }
        for (int f = 0; f <= 15; f++) {
            Due.file("FILE " + f, mill, f, f, -f);
        }
        Due.noFile("FILE -1", () -> mill.record(-1, 0, 0));
        Due.noFile("FILE 16", () -> mill.record(16, 0, 0));
    }

    private static void longs() {
        long[] edges = {Long.MIN_VALUE, Long.MIN_VALUE + 1, -(1L << 32), Integer.MIN_VALUE, -1, 0, 1,
            Integer.MAX_VALUE, 1L << 32, Long.MAX_VALUE - 1, Long.MAX_VALUE};
        ShuffleMill mill = new ShuffleMill();
        for (long edge : edges) {
            mill.record(4, edge, ~edge);
        }
        Due.copyJob(mill, 0, 4, -1, 5, 1);
        Due.is("finish", -1, Due.runAlone(mill));
        for (int i = 0; i < edges.length; i++) {
            Due.is("KEY", edges[i], mill.told(4, i, false));
            Due.is("VALUE", ~edges[i], mill.told(4, i, true));
            Due.is("KEY that a JOB made", edges[i], mill.told(5, i, false));
            Due.is("VALUE that a JOB made", ~edges[i], mill.told(5, i, true));
        }
    }

    private static void fullByRecord() {
        ShuffleMill mill = new ShuffleMill();
        for (int i = 1; i <= 300; i++) {
            Due.is("record", i, mill.record(8, i, i));
        }
        Due.badState("a 301st", () -> mill.record(8, 301, 301));
        Due.is("size", 300, mill.size(8));
        Due.is("the last KEY", 300, mill.told(8, 299, false));
        Due.noFile("RECORD 300", () -> mill.told(8, 300, false));
    }

    private static void fullByJob() {
        ShuffleMill mill = new ShuffleMill();
        for (int i = 0; i < 75; i++) {
            mill.record(0, i, i);
        }
        Due.give(mill, 0, Due.MAP, Due.COPY);
        Due.give(mill, 0, Due.REDUCE, Calls.times(4, 1, 0, 1, 0, 17, 0));
        mill.job(0, 0, -1, 1, 1);
        Due.is("finish", -1, Due.runAlone(mill));
        Due.is("size", 300, mill.size(1));
        Due.badState("a 301st", () -> mill.record(1, 0, 0));
        Due.is("the last KEY", 74, mill.told(1, 299, false));
        Due.is("clear", 300, mill.clear(1));
        Due.is("record then", 1, mill.record(1, 0, 0));
    }

    private static void empty() {
        ShuffleMill mill = new ShuffleMill();
        for (int f = 0; f <= 15; f++) {
            int at = f;
            Due.is("size", 0, mill.size(f));
            Due.noFile("a RECORD", () -> mill.told(at, 0, false));
            Due.is("clear", 0, mill.clear(f));
        }
    }

    /** All of them are done: the last one emits, and the others make 1 and 15 times 1 more. */
    private static void longProgram() {
        for (int place : Calls.PLACES) {
            long[] code = Calls.join(Calls.code(0, 1), Calls.times(15, 0, 1, 6, 0), Calls.emitTop(place));
            long[] full = Calls.join(Calls.pads(40 - code.length / 2, 0), code);
            Due.is("INSTRUCTIONS", 40, full.length / 2);
            Calls.made("40 INSTRUCTIONS", place, 1, full, Calls.keyOf(place), 16);
        }
        ShuffleMill mill = new ShuffleMill();
        for (int i = 1; i <= 40; i++) {
            Due.is("code", i, mill.code(18, 0));
        }
        Due.badState("a 41st", () -> mill.code(18, 0));
        Due.is("program", 40, mill.program(0, 0));
    }

    private static void shortProgram() {
        for (int place : Calls.PLACES) {
            Calls.made("18 alone", place, 2, Calls.code(18, 0));
        }
    }

    private static void jobs() {
        ShuffleMill mill = new ShuffleMill();
        mill.record(15, 4, 4);
        for (int j = 0; j <= 7; j++) {
            Due.give(mill, j, Due.MAP, Due.COPY);
            Due.give(mill, j, Due.REDUCE, 1, 0, 0, j, 17, 0);
            mill.job(j, 15, -1, j, 1);
            Due.is("JOBS", j + 1, mill.count(1));
        }
        Due.is("begin", 8, mill.begin());
        Due.is("finish", -1, mill.finish());
        for (int j = 0; j <= 7; j++) {
            Due.file("what JOB " + j + " made", mill, j, 4, j);
        }
        Due.noFile("JOB -1", () -> mill.job(-1, 15, -1, 14, 1));
        Due.noFile("JOB 8", () -> mill.job(8, 15, -1, 14, 1));
    }

    private static void notMade() {
        ShuffleMill mill = new ShuffleMill();
        mill.record(0, 1, 1);
        Due.give(mill, 4, Due.MAP, Due.COPY);
        Due.give(mill, 4, Due.REDUCE, Due.EACH);
        Due.is("JOBS", 0, mill.count(1));
        Due.is("begin", 0, mill.begin());
        Due.is("finish", -1, mill.finish());
        for (int f = 1; f <= 15; f++) {
            Due.is("size of FILE " + f, 0, mill.size(f));
        }
    }

    private static void combineOrNone() {
        ShuffleMill mill = new ShuffleMill();
        mill.record(0, 1, 10);
        mill.record(0, 1, 20);
        Due.copyJob(mill, 0, 0, -1, 1, 1);
        Due.is("finish without", -1, Due.runAlone(mill));
        Due.file("without", mill, 1, 1, 10, 1, 20);
        Due.give(mill, 0, Due.COMBINE, Due.COMBINE_SUM);
        Due.is("finish with", -1, Due.runAlone(mill));
        Due.file("with", mill, 1, 1, 30);
        Due.is("none again", 0, mill.program(0, Due.COMBINE));
        Due.is("finish without", -1, Due.runAlone(mill));
        Due.file("without", mill, 1, 1, 10, 1, 20);
    }

    private static void inputs() {
        ShuffleMill mill = new ShuffleMill();
        mill.record(0, 1, 10);
        mill.record(15, 1, 20);
        Due.copyJob(mill, 0, 0, -1, 1, 1);
        Due.is("finish", -1, Due.runAlone(mill));
        Due.file("FILE 0 alone", mill, 1, 1, 10);
        mill.job(0, 15, -1, 1, 1);
        Due.is("finish", -1, Due.runAlone(mill));
        Due.file("FILE 15 alone", mill, 1, 1, 20);
        mill.job(0, 0, 15, 1, 1);
        Due.is("finish", -1, Due.runAlone(mill));
        Due.file("FILES 0 and 15", mill, 1, 1, 10, 1, 20);
        mill.job(0, 15, 0, 1, 1);
        Due.is("finish", -1, Due.runAlone(mill));
        Due.file("FILES 15 and 0", mill, 1, 1, 20, 1, 10);
    }

    private static void parts() {
        ShuffleMill mill = new ShuffleMill();
        for (int key = 0; key < 12; key++) {
            mill.record(0, key, key);
        }
        Due.copyJob(mill, 0, 0, -1, 1, 1);
        for (int parts = 1; parts <= 6; parts++) {
            mill.job(0, 0, -1, 1, parts);
            Due.is("finish", -1, Due.runAlone(mill));
            long[] want = new long[24];
            int at = 0;
            for (int part = 0; part < parts; part++) {
                for (int key = part; key < 12; key += parts) {
                    want[at] = key;
                    want[at + 1] = key;
                    at += 2;
                }
            }
            Due.file(parts + " PARTS", mill, 1, want);
        }
        Due.badArgument("0 PARTS", () -> mill.job(0, 0, -1, 1, 0));
        Due.badArgument("7 PARTS", () -> mill.job(0, 0, -1, 1, 7));
    }
}
