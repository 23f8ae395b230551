/** told: a RECORD's KEY or VALUE. */
final class Promise13ToldTest {
    public static void main(String[] args) {
        Due.test("Of RECORD i of FILE f the KEY", Promise13ToldTest::keys);
        Due.test("or (value) the VALUE", Promise13ToldTest::values);
        Due.test("it changes nothing", Promise13ToldTest::again);
        Due.test("IndexOutOfBoundsException if there is no FILE f", Promise13ToldTest::noFile);
        Due.test("or no such RECORD", Promise13ToldTest::noRecord);
        Due.test("IllegalStateException if THE RUN goes on", Promise13ToldTest::running);
        Due.test("behind the first of these", Promise13ToldTest::order);
        Due.end();
    }

    private static ShuffleMill full() {
        ShuffleMill mill = new ShuffleMill();
        for (int i = 0; i < 300; i++) {
            mill.record(15, i, -i - 1);
        }
        mill.record(0, Long.MIN_VALUE, Long.MAX_VALUE);
        return mill;
    }

    private static void keys() {
        ShuffleMill mill = full();
        for (int i = 0; i < 200; i++) {
            Due.is("KEY " + (299 - i), 299 - i, mill.told(15, 299 - i, false));
        }
        Due.is("the first", 0, mill.told(15, 0, false));
        Due.is("the least", Long.MIN_VALUE, mill.told(0, 0, false));
    }

    private static void values() {
        ShuffleMill mill = full();
        for (int i = 0; i < 200; i++) {
            Due.is("VALUE " + (299 - i), i - 300, mill.told(15, 299 - i, true));
        }
        Due.is("the first", -1, mill.told(15, 0, true));
        Due.is("the most", Long.MAX_VALUE, mill.told(0, 0, true));
    }

    private static void again() {
        ShuffleMill mill = new ShuffleMill();
        mill.record(0, 1, 2);
        for (int i = 0; i < 3; i++) {
            Due.is("KEY", 1, mill.told(0, 0, false));
            Due.is("VALUE", 2, mill.told(0, 0, true));
        }
        Due.is("size", 1, mill.size(0));
    }

    private static void noFile() {
        for (int f : new int[] {-1, 16, Integer.MIN_VALUE, Integer.MAX_VALUE}) {
            for (var state : Twins.ALL) {
                Twins.noSuch("FILE " + f, state, mill -> mill.told(f, 0, false));
                Twins.noSuch("FILE " + f, state, mill -> mill.told(f, 0, true));
            }
        }
    }

    private static void noRecord() {
        ShuffleMill mill = full();
        for (int i : new int[] {-1, 300, Integer.MIN_VALUE, Integer.MAX_VALUE}) {
            Due.noFile("RECORD " + i + " of 300", () -> mill.told(15, i, false));
            Due.noFile("RECORD " + i + " of 300", () -> mill.told(15, i, true));
        }
        Due.noFile("RECORD 1 of 1", () -> mill.told(0, 1, false));
        Due.noFile("RECORD 0 of none", () -> mill.told(1, 0, false));
        mill.clear(15);
        Due.noFile("RECORD 0 of a FILE that was cleared", () -> mill.told(15, 0, true));
        mill.record(15, 7, 8);
        Due.noFile("RECORD 1, which was there before", () -> mill.told(15, 1, true));
        for (int i : new int[] {-1, 18, Integer.MIN_VALUE, Integer.MAX_VALUE}) {
            Twins.noSuch("RECORD " + i + " of 18", Twins::rest, twin -> twin.told(0, i, false));
        }
        Twins.noSuch("RECORD 0 of none", Twins::fresh, twin -> twin.told(0, 0, true));
    }

    private static void running() {
        Twins.badState("the first RECORD", Twins::running, mill -> mill.told(0, 0, false));
        Twins.badState("the last RECORD", Twins::running, mill -> mill.told(0, 17, true));
        ShuffleMill mill = full();
        mill.begin();
        Due.badState("in THE RUN", () -> mill.told(15, 299, false));
        mill.finish();
        Due.is("behind it", 299, mill.told(15, 299, false));
    }

    private static void order() {
        for (int f : new int[] {-1, 16}) {
            Twins.noSuch("no FILE in THE RUN", Twins::running, mill -> mill.told(f, 0, false));
            Twins.noSuch("no FILE and no RECORD in THE RUN", Twins::running, mill -> mill.told(f, -1, false));
        }
        for (int i : new int[] {-1, 18, Integer.MIN_VALUE, Integer.MAX_VALUE}) {
            Twins.badState("no RECORD in THE RUN", Twins::running, mill -> mill.told(0, i, false));
        }
        Twins.badState("a RECORD of an empty FILE in THE RUN", Twins::running, mill -> mill.told(9, 0, true));
    }
}
