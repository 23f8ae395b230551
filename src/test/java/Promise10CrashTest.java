/** crash: changes nothing of what comes of THE RUN. */
final class Promise10CrashTest {
    public static void main(String[] args) {
        wrongInputs();
        for (int rounds = 0; rounds < 24; rounds++) {
            for (int w = 0; w <= 6; w++) {
                crashBehind(rounds, w);
            }
        }
        Trials.compare("all are down when THE RUN is finished", mill -> {
            for (int i = 0; i < 70; i++) {
                mill.tick(i % 7, 11);
            }
            for (int w = 0; w <= 6; w++) {
                mill.crash(w);
            }
        });
        Trials.compare("crashed before anything was done", mill -> {
            for (int w = 6; w >= 0; w--) {
                mill.crash(w);
                mill.crash(w);
            }
        });
        Trials.compare("the MASTER crashes when all is done", mill -> {
            for (int i = 0; i < 210; i++) {
                mill.tick(i % 7, 40);
            }
            mill.crash(6);
        });
        Trials.compare("one after the other", mill -> {
            for (int i = 0; i < 180; i++) {
                mill.tick(i % 7, 1 + i % 13);
                if (i % 9 == 0) {
                    mill.crash(i / 9 % 7);
                }
            }
        });
        afterFailure();
        Due.end();
    }

    private static void crashBehind(int rounds, int w) {
        Trials.compare("WORKER " + w + " crashes behind " + rounds + " rounds", mill -> {
            for (int i = 0; i < 7 * rounds; i++) {
                mill.tick(i % 7, 6);
            }
            mill.crash(w);
            for (int i = 0; i < 14; i++) {
                mill.tick(i % 7, 3);
            }
            mill.crash(w);
        });
    }

    /** That a JOB FAILED is not forgotten. */
    private static void afterFailure() {
        ShuffleMill mill = new ShuffleMill();
        mill.record(0, 1, 1);
        Due.copyJob(mill, 4, 0, -1, 1, 1);
        Due.give(mill, 4, Due.MAP, 13, 0);
        mill.begin();
        for (int i = 0; i < 70; i++) {
            mill.tick(i % 7, 5);
        }
        mill.crash(6);
        Due.is("finish", 4, mill.finish());
        Due.is("the next one", 1, mill.begin());
        Due.is("finish again", 4, mill.finish());
    }

    private static void wrongInputs() {
        ShuffleMill mill = new ShuffleMill();
        Due.badState("crash without THE RUN", () -> mill.crash(0));
        Due.noFile("WORKER -1", () -> mill.crash(-1));
        Due.noFile("WORKER 7", () -> mill.crash(7));
        mill.begin();
        Due.noFile("WORKER -1", () -> mill.crash(-1));
        Due.noFile("WORKER 7", () -> mill.crash(7));
        mill.crash(6);
        Due.is("THE RUN goes on", 1, mill.count(0));
        mill.finish();
        Due.badState("crash behind THE RUN", () -> mill.crash(0));
    }
}
