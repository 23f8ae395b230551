/** count: what is there, also while THE RUN goes on. */
final class Promise15CountTest {
    public static void main(String[] args) {
        ShuffleMill mill = new ShuffleMill();
        for (int what : new int[] {Integer.MIN_VALUE, -10, -1, 4, 5, 9, 18, 19, 28, 29, 38, 39, 48, 49, 50, 57, 60,
            Integer.MAX_VALUE}) {
            Due.badArgument("count " + what, () -> mill.count(what));
        }
        Due.copyJob(mill, 0, 0, -1, 1, 1);
        Due.copyJob(mill, 7, 0, -1, 2, 1);
        Due.give(mill, 7, Due.COMBINE, Due.COMBINE_SUM);
        Due.give(mill, 3, Due.MAP, 18, 0);
        mill.code(0, 0);
        mill.code(0, 0);
        all(mill, 0, 0);
        mill.begin();
        all(mill, 1, 1);
        Due.badArgument("count 18 in THE RUN", () -> mill.count(18));
        mill.finish();
        all(mill, 0, 1);
        Due.is("begin", 2, mill.begin());
        all(mill, 1, 2);
        Due.badState("begin again", () -> mill.begin());
        all(mill, 1, 2);
        mill.finish();
        mill.drop(0);
        Due.is("JOBS behind drop", 1, mill.count(1));
        Due.is("JOB 0 behind drop", 0, mill.count(10));
        Due.is("its MAP", 3, mill.count(20));
        Due.end();
    }

    private static void all(ShuffleMill mill, int running, int runs) {
        Due.is("whether it goes on", running, mill.count(0));
        Due.is("JOBS", 2, mill.count(1));
        Due.is("INSTRUCTIONS put together", 2, mill.count(2));
        Due.is("RUNS", runs, mill.count(3));
        for (int j = 0; j < 8; j++) {
            boolean made = j == 0 || j == 7;
            Due.is("JOB " + j, made ? 1 : 0, mill.count(10 + j));
            Due.is("MAP of " + j, made ? 3 : j == 3 ? 1 : 0, mill.count(20 + j));
            Due.is("COMBINE of " + j, j == 7 ? 9 : 0, mill.count(30 + j));
            Due.is("REDUCE of " + j, made ? 6 : 0, mill.count(40 + j));
        }
    }
}
