/** size: how many RECORDS. */
final class Promise14SizeTest {
    public static void main(String[] args) {
        Due.test("How many RECORDS FILE f has", Promise14SizeTest::howMany);
        Due.test("of one that a JOB made", Promise14SizeTest::made);
        Due.test("IndexOutOfBoundsException if there is none", Promise14SizeTest::noFile);
        Due.test("IllegalStateException if THE RUN goes on", Promise14SizeTest::running);
        Due.end();
    }

    private static void howMany() {
        ShuffleMill mill = new ShuffleMill();
        for (int f = 0; f < 16; f++) {
            Due.is("none", 0, mill.size(f));
            for (int i = 0; i < f; i++) {
                mill.record(f, 0, 0);
            }
        }
        for (int f = 0; f < 16; f++) {
            Due.is("FILE " + f, f, mill.size(f));
        }
        for (int i = 15; i < 300; i++) {
            mill.record(15, 0, 0);
        }
        Due.is("a full FILE", 300, mill.size(15));
        Due.badState("one too many", () -> mill.record(15, 0, 0));
        Due.is("a full FILE", 300, mill.size(15));
        mill.clear(15);
        Due.is("behind clear", 0, mill.size(15));
    }

    private static void made() {
        ShuffleMill mill = new ShuffleMill();
        mill.record(0, 1, 1);
        mill.record(0, 2, 2);
        mill.record(1, 3, 3);
        Due.copyJob(mill, 0, 0, -1, 1, 1);
        Due.is("finish", -1, Due.runAlone(mill));
        Due.is("two", 2, mill.size(1));
        mill.clear(0);
        Due.is("finish", -1, Due.runAlone(mill));
        Due.is("none", 0, mill.size(1));
    }

    private static void noFile() {
        for (int f : new int[] {-1, 16, Integer.MIN_VALUE, Integer.MAX_VALUE}) {
            for (var state : Twins.ALL) {
                Twins.noSuch("FILE " + f, state, mill -> mill.size(f));
            }
        }
    }

    private static void running() {
        for (int f : new int[] {0, 1, 9, 15}) {
            Twins.badState("FILE " + f, Twins::running, mill -> mill.size(f));
        }
        ShuffleMill mill = new ShuffleMill();
        mill.begin();
        Due.badState("in THE RUN", () -> mill.size(0));
        mill.finish();
        Due.is("behind it", 0, mill.size(0));
    }
}
