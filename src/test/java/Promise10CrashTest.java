/** crash: changes nothing of what comes of THE RUN. */
final class Promise10CrashTest {
    public static void main(String[] args) {
        Due.test("WORKER w loses all but its disk", Promise10CrashTest::anywhere);
        Due.test("(6 the MASTER)", Promise10CrashTest::master);
        Due.test("is up again at its next tick", Promise10CrashTest::upAgain);
        Due.test("all are down when THE RUN is finished", Promise10CrashTest::allDown);
        Due.test("crashed before anything was done, and twice", Promise10CrashTest::atOnce);
        Due.test("that a JOB FAILED is not forgotten", Promise10CrashTest::afterFailure);
        Due.test("Thrown as by tick: IndexOutOfBoundsException for another w", Promise10CrashTest::otherNode);
        Due.test("Thrown as by tick: IllegalStateException if THE RUN does not go on", Promise10CrashTest::noRun);
        Due.end();
    }

    private static void anywhere() {
        for (int rounds = 0; rounds < 24; rounds++) {
            for (int w = 0; w < 6; w++) {
                crashBehind(rounds, w);
            }
        }
    }

    private static void master() {
        for (int rounds = 0; rounds < 24; rounds++) {
            crashBehind(rounds, 6);
        }
        Trials.compare("the MASTER crashes when all is done", mill -> {
            for (int i = 0; i < 210; i++) {
                mill.tick(i % 7, 40);
            }
            mill.crash(6);
        });
    }

    private static void crashBehind(int rounds, int w) {
        Trials.compare("WORKER " + w + " crashes behind " + rounds + " rounds", mill -> {
            for (int i = 0; i < 7 * rounds; i++) {
                mill.tick(i % 7, 6);
            }
            mill.crash(w);
            for (int i = 0; i < 14; i++) {
                mill.tick(i % 7, 3);
            }
            mill.crash(w);
        });
    }

    private static void upAgain() {
        Trials.compare("one after the other", mill -> {
            for (int i = 0; i < 180; i++) {
                mill.tick(i % 7, 1 + i % 13);
                if (i % 9 == 0) {
                    mill.crash(i / 9 % 7);
                }
            }
        });
        Trials.compare("each crashes behind each tick", mill -> {
            for (int i = 0; i < 98; i++) {
                mill.tick(i % 7, 30);
                mill.crash(i % 7);
            }
        });
    }

    private static void allDown() {
        Trials.compare("in the middle", mill -> {
            for (int i = 0; i < 70; i++) {
                mill.tick(i % 7, 11);
            }
            for (int w = 0; w <= 6; w++) {
                mill.crash(w);
            }
        });
    }

    private static void atOnce() {
        Trials.compare("all", mill -> {
            for (int w = 6; w >= 0; w--) {
                mill.crash(w);
                mill.crash(w);
            }
        });
        ShuffleMill mill = new ShuffleMill();
        mill.begin();
        for (int w = 0; w <= 6; w++) {
            mill.crash(w);
        }
        Due.is("without JOBS THE RUN goes on", 1, mill.count(0));
        Due.is("finish", -1, mill.finish());
    }

    private static void afterFailure() {
        ShuffleMill mill = new ShuffleMill();
        mill.record(0, 1, 1);
        Due.copyJob(mill, 4, 0, -1, 1, 1);
        Due.give(mill, 4, Due.MAP, 13, 0);
        mill.begin();
        for (int i = 0; i < 70; i++) {
            mill.tick(i % 7, 5);
        }
        mill.crash(6);
        Due.is("finish", 4, mill.finish());
        Due.is("the next one", 1, mill.begin());
        Due.is("finish again", 4, mill.finish());
    }

    private static void otherNode() {
        for (int w : new int[] {-1, 7, Integer.MIN_VALUE, Integer.MAX_VALUE}) {
            for (var state : Twins.ALL) {
                Twins.noSuch("WORKER " + w, state, mill -> mill.crash(w));
            }
        }
    }

    private static void noRun() {
        for (int w = 0; w <= 6; w++) {
            int at = w;
            for (var state : Twins.STILL) {
                Twins.badState("WORKER " + w, state, mill -> mill.crash(at));
            }
        }
    }
}
