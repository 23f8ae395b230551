/** record: one RECORD more, up to 300. */
final class Promise02RecordTest {
    public static void main(String[] args) {
        ShuffleMill mill = new ShuffleMill();
        for (int i = 0; i < 300; i++) {
            Due.is("record " + i, i + 1, mill.record(15, i, -i));
        }
        Due.badState("the 301st RECORD", () -> mill.record(15, 0, 0));
        Due.is("size of a full FILE", 300, mill.size(15));
        Due.is("its last KEY", 299, mill.told(15, 299, false));
        Due.is("its last VALUE", -299, mill.told(15, 299, true));

        Due.is("another FILE", 1, mill.record(0, Long.MIN_VALUE, Long.MAX_VALUE));
        Due.is("the same RECORD again", 2, mill.record(0, Long.MIN_VALUE, Long.MAX_VALUE));
        Due.file("FILE 0", mill, 0, Long.MIN_VALUE, Long.MAX_VALUE, Long.MIN_VALUE, Long.MAX_VALUE);

        Due.noFile("record of FILE -1", () -> mill.record(-1, 0, 0));
        Due.noFile("record of FILE 16", () -> mill.record(16, 0, 0));
        mill.begin();
        Due.badState("record in THE RUN", () -> mill.record(0, 0, 0));
        Due.noFile("record of FILE 16 in THE RUN", () -> mill.record(16, 0, 0));
        mill.finish();
        Due.is("nothing came of it", 2, mill.size(0));
        Due.is("record behind THE RUN", 3, mill.record(0, 0, 0));
        Due.end();
    }
}
