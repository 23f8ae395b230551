/**
 * One WORKER or another stops in the middle of a task, the others go on for long without it, some of them to the
 * next JOBS; then it wakes with what it has, which nobody wants any more.
 */
final class SleepersTest {
    public static void main(String[] args) {
        for (int rounds = 0; rounds < 16; rounds++) {
            for (int sleeper = 0; sleeper < 6; sleeper++) {
                for (int ticks = 2; ticks <= 5; ticks += 3) {
                    sleep(rounds, sleeper, ticks);
                }
            }
        }
        Due.end();
    }

    private static void sleep(int rounds, int sleeper, int ticks) {
        String what = "WORKER " + sleeper + " sleeps behind " + rounds + " rounds of " + ticks;
        Trials.compare(what, mill -> {
            for (int i = 0; i < 7 * rounds; i++) {
                mill.tick(i % 7, ticks);
            }
            for (int i = 0; i < 20 * 7; i++) {
                if (i % 7 != sleeper) {
                    mill.tick(i % 7, i % 7 == 6 ? 150 : 9);
                }
            }
            mill.tick(sleeper, 1 + rounds % 3);
            for (int i = 0; i < 21; i++) {
                mill.tick(i % 7, 2);
            }
        });
    }
}
