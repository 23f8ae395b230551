/** tick: changes nothing of what comes of THE RUN. */
final class Promise09TickTest {
    public static void main(String[] args) {
        wrongInputs();
        Trials.compare("each in turn, by ones", mill -> {
            for (int i = 0; i < 210; i++) {
                mill.tick(i % 7, 1);
            }
        });
        Trials.compare("each in turn, by 200", mill -> {
            for (int i = 0; i < 210; i++) {
                mill.tick(i % 7, 200);
            }
        });
        for (int w = 0; w < 6; w++) {
            int alone = w;
            Trials.compare("WORKER " + w + " and the MASTER alone", mill -> {
                for (int i = 0; i < 100; i++) {
                    mill.tick(alone, 1 + i);
                    mill.tick(6, 1 + i % 3);
                }
            });
        }
        Trials.compare("the MASTER alone", mill -> {
            for (int i = 0; i < 50; i++) {
                mill.tick(6, 200);
            }
        });
        Trials.compare("WORKERS alone", mill -> {
            for (int i = 0; i < 60; i++) {
                mill.tick(i % 6, 200);
            }
        });
        Due.end();
    }

    private static void wrongInputs() {
        ShuffleMill mill = new ShuffleMill();
        Due.badState("tick without THE RUN", () -> mill.tick(0, 1));
        for (int i = 0; i < 2; i++) {
            Due.noFile("WORKER -1", () -> mill.tick(-1, 1));
            Due.noFile("WORKER 7", () -> mill.tick(7, 1));
            Due.noFile("WORKER 7 and n 0", () -> mill.tick(7, 0));
            Due.badArgument("n 0", () -> mill.tick(6, 0));
            Due.badArgument("n 201", () -> mill.tick(0, 201));
            Due.badArgument("n -1", () -> mill.tick(0, -1));
            if (i == 0) {
                mill.begin();
            }
        }
        for (int w = 0; w <= 6; w++) {
            mill.tick(w, 1);
            mill.tick(w, 200);
        }
        Due.is("THE RUN goes on till finish", 1, mill.count(0));
        Due.badState("FILES can not be seen", () -> mill.size(0));
        mill.finish();
        Due.badState("tick behind THE RUN", () -> mill.tick(0, 1));
    }
}
