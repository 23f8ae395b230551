/** line: what is lost and comes twice changes nothing of what comes of THE RUN. */
final class Promise11LineTest {
    public static void main(String[] args) {
        ShuffleMill mill = new ShuffleMill();
        Due.badState("line without THE RUN", () -> mill.line(0, 0));
        mill.begin();
        mill.line(-1, -1);
        mill.line(Integer.MIN_VALUE, Integer.MAX_VALUE);
        mill.finish();
        Due.badState("line behind THE RUN", () -> mill.line(0, 0));

        disturbed("all is lost", 0xFFFF, 0, 1);
        disturbed("all comes twice", 0, 0xFFFF, 1);
        disturbed("both", 0xFFFF, 0xFFFF, 7);
        disturbed("one lost, one twice", 0x5555, 0xAAAA, 1);
        disturbed("three lost", 0x7777, 0x8888, 3);
        disturbed("higher bits say nothing", 0xFFFF0000, 0xFFFF0000, 2);
        for (int bit = 0; bit < 16; bit++) {
            disturbed("bit " + bit + " is lost", 1 << bit, 0, 5);
            disturbed("bit " + bit + " is twice", 0, 1 << bit, 5);
        }
        Trials.compare("lost when THE RUN is finished", x -> {
            for (int i = 0; i < 35; i++) {
                x.tick(i % 7, 5);
            }
            x.line(0xFFFF, 0xFFFF);
        });
        Due.end();
    }

    private static void disturbed(String what, int lost, int twice, int often) {
        Trials.compare(what, mill -> {
            for (int i = 0; i < 200; i++) {
                if (i % often == 0) {
                    mill.line(lost, twice);
                }
                mill.tick(i % 7, 1 + i % 9);
            }
        });
    }
}
