/** line: what is lost and comes twice changes nothing of what comes of THE RUN. */
final class Promise11LineTest {
    public static void main(String[] args) {
        Due.test("the bits of a mask tell which are lost: none, one, all", Promise11LineTest::lost);
        Due.test("of another one which come twice: none, one, all", Promise11LineTest::twice);
        Due.test("lost and twice", Promise11LineTest::both);
        Due.test("(16, the lowest first)", Promise11LineTest::sixteen);
        Due.test("any mask", Promise11LineTest::anyMask);
        Due.test("lost when THE RUN is finished", Promise11LineTest::whenFinished);
        Due.test("a mask does not outlive its RUN", Promise11LineTest::nextRun);
        Due.test("IllegalStateException if THE RUN does not go on", Promise11LineTest::noRun);
        Due.end();
    }

    private static void disturbed(String what, int lost, int twice, int often) {
        Trials.compare(what, mill -> {
            for (int i = 0; i < (often == 1 ? 135 : 180); i++) {
                if (i % often == 0) {
                    mill.line(lost, twice);
                }
                mill.tick(i % 7, 1 + i % 9);
            }
        });
    }

    private static void lost() {
        disturbed("none", 0, 0, 1);
        disturbed("all", 0xFFFF, 0, 1);
        for (int bit = 0; bit < 16; bit++) {
            disturbed("bit " + bit, 1 << bit, 0, 5);
        }
    }

    private static void twice() {
        disturbed("all", 0, 0xFFFF, 1);
        for (int bit = 0; bit < 16; bit++) {
            disturbed("bit " + bit, 0, 1 << bit, 5);
        }
    }

    private static void both() {
        disturbed("all of both", 0xFFFF, 0xFFFF, 7);
        disturbed("one lost, one twice", 0x5555, 0xAAAA, 1);
        disturbed("three lost", 0x7777, 0x8888, 3);
    }

    private static void sixteen() {
        disturbed("bits above the 16th", 0xFFFF0000, 0xFFFF0000, 2);
        disturbed("the 16th", 0x8000, 0, 2);
        disturbed("the 17th", 0x10000, 0x10000, 2);
    }

    private static void anyMask() {
        ShuffleMill mill = new ShuffleMill();
        mill.begin();
        for (int mask : new int[] {0, -1, Integer.MIN_VALUE, Integer.MAX_VALUE, 0xFFFF, 0x10000}) {
            mill.line(mask, ~mask);
            mill.line(mask, mask);
        }
        Due.is("THE RUN goes on", 1, mill.count(0));
        Due.is("finish", -1, mill.finish());
    }

    private static void whenFinished() {
        Trials.compare("in the middle", mill -> {
            for (int i = 0; i < 35; i++) {
                mill.tick(i % 7, 5);
            }
            mill.line(0xFFFF, 0xFFFF);
        });
        Trials.compare("at once", mill -> mill.line(-1, -1));
    }

    private static void nextRun() {
        ShuffleMill mill = new ShuffleMill();
        mill.record(0, 1, 2);
        Due.copyJob(mill, 0, 0, -1, 1, 1);
        mill.begin();
        mill.line(-1, 0);
        Due.is("finish", -1, mill.finish());
        mill.clear(1);
        mill.begin();
        Due.is("finish again", -1, mill.finish());
        Due.file("it is made", mill, 1, 1, 2);
    }

    private static void noRun() {
        for (var state : Twins.STILL) {
            Twins.badState("line", state, mill -> mill.line(0, 0));
            Twins.badState("line", state, mill -> mill.line(-1, -1));
        }
    }
}
