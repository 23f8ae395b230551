/** tick: changes nothing of what comes of THE RUN. */
final class Promise09TickTest {
    public static void main(String[] args) {
        Due.test("WORKER w (0 to 5; 6 the MASTER) does what it has to do", Promise09TickTest::each);
        Due.test("n (1 to 200) times", Promise09TickTest::times);
        Due.test("ticks change nothing: each in turn, by ones", () -> inTurn(1));
        Due.test("ticks change nothing: each in turn, by 200", () -> inTurn(200));
        Due.test("ticks change nothing: one WORKER and the MASTER", Promise09TickTest::oneWorker);
        Due.test("ticks change nothing: the MASTER alone", Promise09TickTest::masterAlone);
        Due.test("ticks change nothing: WORKERS alone", Promise09TickTest::workersAlone);
        Due.test("IndexOutOfBoundsException for another w", Promise09TickTest::otherNode);
        Due.test("IllegalArgumentException for another n", Promise09TickTest::otherTimes);
        Due.test("IllegalStateException if THE RUN does not go on", Promise09TickTest::noRun);
        Due.test("the exceptions in their order", Promise09TickTest::order);
        Due.end();
    }

    private static void each() {
        ShuffleMill mill = new ShuffleMill();
        mill.begin();
        for (int w = 0; w <= 6; w++) {
            mill.tick(w, 1);
            Due.is("it goes on", 1, mill.count(0));
        }
        Trials.compare("all seven", other -> {
            for (int w = 0; w <= 6; w++) {
                other.tick(w, 100);
            }
        });
    }

    private static void times() {
        ShuffleMill mill = new ShuffleMill();
        mill.begin();
        for (int n : new int[] {1, 2, 199, 200}) {
            for (int w = 0; w <= 6; w++) {
                mill.tick(w, n);
            }
        }
        Due.is("THE RUN goes on till finish", 1, mill.count(0));
        Due.is("finish", -1, mill.finish());
    }

    private static void inTurn(int n) {
        Trials.compare("by " + n, mill -> {
            for (int i = 0; i < 210; i++) {
                mill.tick(i % 7, n);
            }
        });
    }

    private static void oneWorker() {
        for (int w = 0; w < 6; w++) {
            int alone = w;
            Trials.compare("WORKER " + w, mill -> {
                for (int i = 0; i < 100; i++) {
                    mill.tick(alone, 1 + i);
                    mill.tick(6, 1 + i % 3);
                }
            });
        }
    }

    private static void masterAlone() {
        Trials.compare("the MASTER", mill -> {
            for (int i = 0; i < 50; i++) {
                mill.tick(6, 200);
            }
        });
    }

    private static void workersAlone() {
        Trials.compare("WORKERS", mill -> {
            for (int i = 0; i < 60; i++) {
                mill.tick(i % 6, 200);
            }
        });
    }

    private static void otherNode() {
        for (int w : new int[] {-1, 7, Integer.MIN_VALUE, Integer.MAX_VALUE}) {
            for (var state : Twins.ALL) {
                Twins.noSuch("WORKER " + w, state, mill -> mill.tick(w, 1));
            }
        }
    }

    private static void otherTimes() {
        for (int n : new int[] {0, 201, -1, Integer.MIN_VALUE, Integer.MAX_VALUE}) {
            for (int w = 0; w <= 6; w++) {
                int at = w;
                Twins.badArgument("n " + n + " of " + w, Twins::running, mill -> mill.tick(at, n));
            }
        }
    }

    private static void noRun() {
        for (int w = 0; w <= 6; w++) {
            int at = w;
            for (var state : Twins.STILL) {
                Twins.badState("WORKER " + w, state, mill -> mill.tick(at, 1));
                Twins.badState("WORKER " + w, state, mill -> mill.tick(at, 200));
            }
        }
    }

    private static void order() {
        for (var state : Twins.ALL) {
            Twins.noSuch("WORKER 7 and n 0", state, mill -> mill.tick(7, 0));
            Twins.badArgument("n 0", state, mill -> mill.tick(6, 0));
            Twins.badArgument("n 201", state, mill -> mill.tick(0, 201));
        }
    }
}
