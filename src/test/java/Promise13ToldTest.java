/** told: a RECORD's KEY or VALUE. */
final class Promise13ToldTest {
    public static void main(String[] args) {
        ShuffleMill mill = new ShuffleMill();
        mill.record(0, 1, 2);
        mill.record(0, Long.MAX_VALUE, Long.MIN_VALUE);
        mill.record(15, 5, 6);
        Due.is("KEY", 1, mill.told(0, 0, false));
        Due.is("VALUE", 2, mill.told(0, 0, true));
        Due.is("KEY", Long.MAX_VALUE, mill.told(0, 1, false));
        Due.is("VALUE", Long.MIN_VALUE, mill.told(0, 1, true));
        Due.is("VALUE of FILE 15", 6, mill.told(15, 0, true));
        wrong(mill);
        Due.noFile("RECORD -1", () -> mill.told(0, -1, false));
        Due.noFile("RECORD 2 of 2", () -> mill.told(0, 2, true));
        Due.noFile("a RECORD of an empty FILE", () -> mill.told(1, 0, true));
        mill.begin();
        wrong(mill);
        Due.badState("told in THE RUN", () -> mill.told(0, 0, false));
        Due.badState("no such RECORD in THE RUN", () -> mill.told(0, 2, false));
        Due.badState("RECORD -1 in THE RUN", () -> mill.told(0, -1, false));
        mill.finish();
        Due.is("behind it", 2, mill.told(0, 0, true));
        Due.end();
    }

    private static void wrong(ShuffleMill mill) {
        Due.noFile("FILE -1", () -> mill.told(-1, 0, false));
        Due.noFile("FILE 16", () -> mill.told(16, 0, true));
    }
}
