/** record: one RECORD more, up to 300. */
final class Promise02RecordTest {
    public static void main(String[] args) {
        Due.test("A RECORD more of FILE f", Promise02RecordTest::oneMore);
        Due.test("how many", Promise02RecordTest::howMany);
        Due.test("IndexOutOfBoundsException if there is no FILE f", Promise02RecordTest::noFile);
        Due.test("IllegalStateException if it has 300", Promise02RecordTest::full);
        Due.test("IllegalStateException if THE RUN goes on", Promise02RecordTest::running);
        Due.end();
    }

    private static void oneMore() {
        ShuffleMill mill = new ShuffleMill();
        mill.record(15, Long.MIN_VALUE, Long.MAX_VALUE);
        mill.record(15, Long.MIN_VALUE, Long.MAX_VALUE);
        mill.record(15, 0, -1);
        mill.record(0, 7, 8);
        Due.file("FILE 15, the same RECORD twice", mill, 15,
                Long.MIN_VALUE, Long.MAX_VALUE, Long.MIN_VALUE, Long.MAX_VALUE, 0, -1);
        Due.file("FILE 0", mill, 0, 7, 8);
    }

    private static void howMany() {
        ShuffleMill mill = new ShuffleMill();
        for (int i = 1; i <= 300; i++) {
            Due.is("FILE 3", i, mill.record(3, 0, 0));
        }
        Due.is("FILE 4", 1, mill.record(4, 0, 0));
        Due.is("clear", 300, mill.clear(3));
        Due.is("FILE 3 then", 1, mill.record(3, 0, 0));
    }

    private static void noFile() {
        for (int f : new int[] {-1, 16, Integer.MIN_VALUE, Integer.MAX_VALUE}) {
            for (var state : Twins.ALL) {
                Twins.noSuch("FILE " + f, state, mill -> mill.record(f, 1, 1));
            }
        }
    }

    private static void fill(ShuffleMill mill) {
        for (int i = 0; i < 299; i++) {
            mill.record(15, i, -i);
        }
        mill.code(17, 0);
    }

    private static void full() {
        ShuffleMill mill = new ShuffleMill();
        fill(mill);
        Due.is("the 300th", 300, mill.record(15, 299, -299));
        Due.badState("the 301st", () -> mill.record(15, 300, -300));
        Due.is("its last KEY", 299, mill.told(15, 299, false));
        Due.is("its last VALUE", -299, mill.told(15, 299, true));
        Due.is("another FILE is not full", 1, mill.record(14, 0, 0));
        Twins.badState("the 301st", twin -> {
            fill(twin);
            twin.record(15, 1, 1);
        }, twin -> twin.record(15, 2, 2));
    }

    private static void running() {
        Twins.badState("a FILE with RECORDS", Twins::running, mill -> mill.record(0, 1, 1));
        Twins.badState("an empty FILE", Twins::running, mill -> mill.record(5, 1, 1));
        Twins.badState("the OUTPUT", Twins::running, mill -> mill.record(1, 1, 1));
        ShuffleMill mill = new ShuffleMill();
        fill(mill);
        mill.record(15, 0, 0);
        mill.begin();
        Due.badState("a full FILE", () -> mill.record(15, 1, 1));
        mill.finish();
        Due.is("size", 300, mill.size(15));
        Due.is("record behind THE RUN", 1, mill.record(14, 1, 1));
    }
}
