/** clear: the FILE is empty. */
final class Promise03ClearTest {
    public static void main(String[] args) {
        Due.test("FILE f is empty", Promise03ClearTest::empty);
        Due.test("how many RECORDS it had", Promise03ClearTest::howMany);
        Due.test("IndexOutOfBoundsException if there is none", Promise03ClearTest::noFile);
        Due.test("IllegalStateException if THE RUN goes on", Promise03ClearTest::running);
        Due.end();
    }

    private static void empty() {
        ShuffleMill mill = new ShuffleMill();
        mill.record(3, 1, 2);
        mill.record(3, 3, 4);
        mill.record(4, 5, 6);
        mill.clear(3);
        Due.is("size", 0, mill.size(3));
        Due.noFile("RECORD 0", () -> mill.told(3, 0, false));
        Due.file("another FILE stays", mill, 4, 5, 6);
        mill.record(3, 7, 8);
        Due.file("record then", mill, 3, 7, 8);
        Due.noFile("the old second one is not there", () -> mill.told(3, 1, false));
    }

    private static void howMany() {
        ShuffleMill mill = new ShuffleMill();
        Due.is("none", 0, mill.clear(0));
        mill.record(0, 0, 0);
        Due.is("one", 1, mill.clear(0));
        Due.is("none then", 0, mill.clear(0));
        for (int i = 0; i < 300; i++) {
            mill.record(15, i, i);
        }
        Due.is("300", 300, mill.clear(15));
        Due.is("none then", 0, mill.clear(15));
    }

    private static void noFile() {
        for (int f : new int[] {-1, 16, Integer.MIN_VALUE, Integer.MAX_VALUE}) {
            for (var state : Twins.ALL) {
                Twins.noSuch("FILE " + f, state, mill -> mill.clear(f));
            }
        }
    }

    private static void running() {
        for (int f : new int[] {0, 1, 5, 15}) {
            Twins.badState("FILE " + f, Twins::running, mill -> mill.clear(f));
        }
        ShuffleMill mill = new ShuffleMill();
        mill.record(0, 1, 1);
        mill.begin();
        Due.badState("in THE RUN", () -> mill.clear(0));
        mill.finish();
        Due.is("behind it", 1, mill.clear(0));
    }
}
