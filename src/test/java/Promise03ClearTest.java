/** clear: the FILE is empty. */
final class Promise03ClearTest {
    public static void main(String[] args) {
        ShuffleMill mill = new ShuffleMill();
        mill.record(3, 1, 2);
        mill.record(3, 3, 4);
        mill.record(4, 5, 6);
        Due.noFile("clear of FILE -1", () -> mill.clear(-1));
        Due.noFile("clear of FILE 16", () -> mill.clear(16));
        mill.begin();
        Due.badState("clear in THE RUN", () -> mill.clear(3));
        Due.noFile("clear of FILE 16 in THE RUN", () -> mill.clear(16));
        mill.finish();
        Due.is("clear", 2, mill.clear(3));
        Due.is("size then", 0, mill.size(3));
        Due.noFile("told then", () -> mill.told(3, 0, false));
        Due.is("clear again", 0, mill.clear(3));
        Due.is("other FILES stay", 1, mill.size(4));
        Due.is("record then", 1, mill.record(3, 7, 8));
        Due.file("FILE 3", mill, 3, 7, 8);

        for (int i = 1; i < 300; i++) {
            mill.record(3, i, i);
        }
        Due.is("clear of a full FILE", 300, mill.clear(3));
        Due.is("record then", 1, mill.record(3, 1, 1));
        Due.end();
    }
}
