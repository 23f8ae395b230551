import java.util.Random;

/**
 * Runs of calls, the same ones each time, on a ShuffleMill and on a PlainMill: the answers and exceptions are the
 * same, however THE RUN is ticked, crashed and disturbed.
 */
final class RandomRunsTest {
    private static final int RUNS = 2500;
    /** What later calls answer is free. */
    private static final int CALLS = 512;

    private final Random random;
    private final ShuffleMill mill = new ShuffleMill();
    private final PlainMill plain = new PlainMill();
    private int calls;
    private static int finished;
    private static int failed;
    private static int seen;

    private RandomRunsTest(long seed) {
        random = new Random(seed);
    }

    public static void main(String[] args) {
        for (long seed = 1; seed <= RUNS; seed++) {
            new RandomRunsTest(seed).play(seed);
        }
        System.out.println(finished + " RUNS ended well, in " + failed + " a JOB FAILED; " + seen + " RECORDS were seen");
        Due.is("some RUNS end well", 1, finished > RUNS ? 1 : 0);
        Due.is("some JOBS FAIL", 1, failed > RUNS / 10 ? 1 : 0);
        Due.end();
    }

    private static Object answer(Due.Call call) {
        try {
            return call.answer();
        } catch (RuntimeException e) {
            return e.getClass();
        }
    }

    private Object both(String what, Due.Call first, Due.Call second) {
        calls++;
        Object want = answer(second);
        Due.same(what, want, answer(first));
        return want;
    }

    private boolean left(int many) {
        return calls + many <= CALLS;
    }

    private void play(long seed) {
        String run = "seed " + seed + " ";
        fill(run);
        while (left(110)) {
            for (int i = random.nextInt(4); i > 0; i--) {
                oddCall(run);
            }
            for (int i = 1 + random.nextInt(3); i > 0; i--) {
                makeJob(run);
            }
            if (left(70)) {
                playRun(run);
            }
        }
        compareFiles(run, CALLS - calls - 17);
    }

    /** Few calls make many RECORDS only by JOBS, so the FILES are filled for one part and made for the other. */
    private void fill(String run) {
        int range = 1 + random.nextInt(40);
        int many = random.nextBoolean() ? 5 + random.nextInt(40) : 20 + random.nextInt(150);
        for (int i = many; i > 0; i--) {
            int f = random.nextInt(3);
            long key = random.nextInt(20) == 0 ? random.nextLong() : random.nextInt(2 * range) - range;
            long value = random.nextInt(20) == 0 ? random.nextLong() : random.nextInt(40) - 5;
            both(run + "record", () -> mill.record(f, key, value), () -> plain.record(f, key, value));
        }
    }

    private void put(String run, int op, long a) {
        both(run + "code " + op + " " + a, () -> mill.code(op, a), () -> plain.code(op, a));
    }

    private void putAll(String run, long... code) {
        for (int i = 0; i < code.length; i += 2) {
            put(run, (int) code[i], code[i + 1]);
        }
    }

    private void randomCode(String run) {
        for (int i = 1 + random.nextInt(8); i > 0; i--) {
            int op = random.nextInt(19);
            long a = op == 4 || op == 5 ? random.nextInt(4) : op == 15 || op == 16 ? random.nextInt(9)
                    : random.nextInt(7) - 3;
            put(run, op, a);
        }
    }

    private void putMap(String run) {
        switch (random.nextInt(12)) {
            case 0: putAll(run, 2, 0, 1, 0, 17, 0); break;
            case 1: putAll(run, 1, 0, 2, 0, 17, 0, 1, 0, 0, 1, 6, 0, 2, 0, 0, -2, 8, 0, 17, 0); break;
            case 2: putAll(run, 1, 0, 0, 3, 9, 0, 2, 0, 17, 0, 18, 0); break;
            case 3: putAll(run, 1, 0, 12, 0, 17, 0, 2, 0, 12, 0, 17, 0, 1, 0, 2, 0, 17, 0, 2, 0, 1, 0, 17, 0); break;
            case 4: putAll(run, 1, 0, 2, 0, 10, 0, 16, 7, 1, 0, 2, 0, 17, 0); break;
            case 5: randomCode(run); break;
            case 6: putAll(run, 0, random.nextInt(3), 2, 0, 14, 0, 1, 0, 7, 0, 17, 0); break;
            case 7: putAll(run, 0, 100, 2, 0, 9, 0, 1, 0, 17, 0); break;
            case 8: putAll(run, 1, 0, 0, 20, 10, 0, 16, 7, 1, 0, 2, 0, 17, 0, 1, 0, 2, 0, 17, 0); break;
            default: putAll(run, Due.COPY); break;
        }
    }

    private void putFold(String run, boolean combine) {
        switch (random.nextInt(12)) {
            case 0: randomCode(run); break;
            case 1:
                if (combine) {
                    putAll(run, 3, 0, 16, 5, 2, 0, 17, 0, 15, 0);
                } else {
                    putAll(run, Due.EACH);
                }
                break;
            case 2:
                // how many VALUES there are
                putAll(run, 3, 0, 16, 9, 2, 0, 13, 0, 0, 1, 4, 1, 6, 0, 5, 1, 15, 0);
                putAll(run, combine ? new long[] {4, 1, 17, 0} : new long[] {1, 0, 4, 1, 17, 0});
                break;
            case 3:
                if (combine) {
                    putAll(run, 2, 0, 12, 0, 17, 0, 17, 0);
                } else {
                    putAll(run, 2, 0, 1, 0, 17, 0, 1, 0, 0, 7, 17, 0);
                }
                break;
            case 4:
                if (combine) {
                    putAll(run, 2, 0, 12, 0, 12, 0, 12, 0, 17, 0, 17, 0, 17, 0, 17, 0);
                } else {
                    putAll(run, 1, 0, 12, 0, 17, 0);
                }
                break;
            default: putAll(run, combine ? Due.COMBINE_SUM : Due.SUM); break;
        }
    }

    private void makeJob(String run) {
        int j = random.nextInt(8);
        boolean fresh = plain.count(20 + j) == 0 || random.nextInt(4) == 0;
        if (fresh && left(200)) {
            give(run, j, 0);
            if (random.nextInt(3) > 0) {
                give(run, j, 1);
            }
            give(run, j, 2);
        }
        int a = random.nextInt(6);
        int b = random.nextInt(7) - 1;
        int output = random.nextInt(3) == 0 ? random.nextInt(6) : 3 + random.nextInt(13);
        int parts = 1 + random.nextInt(6);
        both(run + "job", () -> voided(() -> mill.job(j, a, b, output, parts)),
                () -> voided(() -> plain.job(j, a, b, output, parts)));
    }

    private void give(String run, int j, int what) {
        if (what == 0) {
            putMap(run);
        } else {
            putFold(run, what == 1);
        }
        Object got = both(run + "program", () -> mill.program(j, what), () -> plain.program(j, what));
        if (got instanceof Class) {
            for (int i = 0; i < 9; i++) {
                put(run, 18, 0);
            }
            both(run + "program", () -> mill.program(j, what), () -> plain.program(j, what));
        }
    }

    private static long voided(Due.Act act) {
        act.run();
        return 0;
    }

    private void playRun(String run) {
        Object begun = both(run + "begin", mill::begin, plain::begin);
        if (begun instanceof Class) {
            int j = random.nextInt(8);
            both(run + "drop", () -> mill.drop(j) ? 1 : 0, () -> plain.drop(j) ? 1 : 0);
            return;
        }
        disturb(run);
        Object ended = both(run + "finish", mill::finish, plain::finish);
        if (ended.equals(-1L)) {
            finished++;
        } else {
            failed++;
            int j = ((Long) ended).intValue();
            both(run + "drop", () -> mill.drop(j) ? 1 : 0, () -> plain.drop(j) ? 1 : 0);
        }
        compareFiles(run, 8);
    }

    private void disturb(String run) {
        int many = random.nextInt(3) == 0 ? 0 : random.nextInt(60);
        int most = random.nextInt(2) == 0 ? 6 : 200;
        int quiet = random.nextInt(3) == 0 ? random.nextInt(7) : 9;
        for (int i = 0; i < many && left(40); i++) {
            int kind = random.nextInt(20);
            int w = random.nextInt(7);
            int n = 1 + random.nextInt(most);
            int lost = random.nextInt();
            int twice = random.nextInt();
            if (kind == 0) {
                both(run + "crash", () -> voided(() -> mill.crash(w)), () -> voided(() -> plain.crash(w)));
            } else if (kind <= 2) {
                both(run + "line", () -> voided(() -> mill.line(lost, twice)),
                        () -> voided(() -> plain.line(lost, twice)));
            } else if (kind == 3) {
                both(run + "check", mill::check, plain::check);
            } else if (kind == 4) {
                oddCall(run);
            } else if (w != quiet) {
                both(run + "tick", () -> voided(() -> mill.tick(w, n)), () -> voided(() -> plain.tick(w, n)));
            }
        }
    }

    private void oddCall(String run) {
        int f = random.nextInt(18) - 1;
        int i = random.nextInt(40) - 1;
        int x = random.nextInt(60) - 5;
        long a = random.nextInt(50) - 5;
        switch (random.nextInt(12)) {
            case 0: both(run + "size", () -> mill.size(f), () -> plain.size(f)); break;
            case 1: both(run + "told", () -> mill.told(f, i, true), () -> plain.told(f, i, true)); break;
            case 2: both(run + "told", () -> mill.told(f, i, false), () -> plain.told(f, i, false)); break;
            case 3: both(run + "count", () -> mill.count(x), () -> plain.count(x)); break;
            case 4: both(run + "record", () -> mill.record(f, a, x), () -> plain.record(f, a, x)); break;
            case 5: both(run + "program", () -> mill.program(f, x), () -> plain.program(f, x)); break;
            case 6: both(run + "drop", () -> mill.drop(f + 3) ? 1 : 0, () -> plain.drop(f + 3) ? 1 : 0); break;
            case 7: both(run + "check", mill::check, plain::check); break;
            case 8: both(run + "code", () -> mill.code(x + 15, a), () -> plain.code(x + 15, a)); break;
            case 9:
                both(run + "job", () -> voided(() -> mill.job(f, x, i, f, (int) a)),
                        () -> voided(() -> plain.job(f, x, i, f, (int) a)));
                break;
            case 10:
                if (random.nextInt(8) == 0) {
                    both(run + "clear", () -> mill.clear(f), () -> plain.clear(f));
                }
                break;
            default:
                both(run + "tick", () -> voided(() -> mill.tick(f - 2, x)), () -> voided(() -> plain.tick(f - 2, x)));
                break;
        }
    }

    /** All sizes, and a KEY or a VALUE here and there. */
    private void compareFiles(String run, int many) {
        int[] filled = new int[16];
        int files = 0;
        for (int f = 0; f < 16; f++) {
            int at = f;
            both(run + "size of " + f, () -> mill.size(at), () -> plain.size(at));
            if (plain.size(f) > 0) {
                filled[files] = f;
                files++;
            }
        }
        for (int k = 0; k < many && files > 0; k++) {
            int f = filled[random.nextInt(files)];
            int i = random.nextInt(plain.size(f));
            boolean value = random.nextBoolean();
            seen++;
            both(run + "told", () -> mill.told(f, i, value), () -> plain.told(f, i, value));
        }
        both(run + "check", mill::check, plain::check);
    }
}
