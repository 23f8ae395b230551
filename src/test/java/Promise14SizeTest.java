/** size: how many RECORDS. */
final class Promise14SizeTest {
    public static void main(String[] args) {
        ShuffleMill mill = new ShuffleMill();
        Due.is("size", 0, mill.size(15));
        mill.record(15, 0, 0);
        Due.is("size", 1, mill.size(15));
        Due.is("of another", 0, mill.size(0));
        Due.noFile("FILE -1", () -> mill.size(-1));
        Due.noFile("FILE 16", () -> mill.size(16));
        mill.begin();
        Due.noFile("FILE 16 in THE RUN", () -> mill.size(16));
        Due.badState("size in THE RUN", () -> mill.size(0));
        mill.finish();
        Due.is("size behind it", 1, mill.size(15));
        for (int i = 2; i <= 300; i++) {
            mill.record(15, 0, 0);
        }
        Due.is("size of a full FILE", 300, mill.size(15));
        Due.end();
    }
}
