/** drop: the JOB is none, its PROGRAMS stay. */
final class Promise07DropTest {
    public static void main(String[] args) {
        ShuffleMill mill = new ShuffleMill();
        Due.noFile("JOB -1", () -> mill.drop(-1));
        Due.noFile("JOB 8", () -> mill.drop(8));
        Due.is("one that was never made", 0, mill.drop(7) ? 1 : 0);
        mill.record(0, 1, 2);
        Due.copyJob(mill, 7, 0, -1, 1, 1);
        Due.give(mill, 7, Due.COMBINE, Due.COMBINE_SUM);
        Due.copyJob(mill, 6, 0, -1, 2, 1);
        mill.begin();
        Due.badState("drop in THE RUN", () -> mill.drop(7));
        Due.noFile("drop of JOB 8 in THE RUN", () -> mill.drop(8));
        mill.finish();
        Due.is("it was not dropped", 1, mill.count(17));
        Due.is("drop", 1, mill.drop(7) ? 1 : 0);
        Due.is("drop again", 0, mill.drop(7) ? 1 : 0);
        Due.is("it is not made", 0, mill.count(17));
        Due.is("the other is", 1, mill.count(16));
        Due.is("its MAP stays", 3, mill.count(27));
        Due.is("its COMBINE stays", 9, mill.count(37));
        Due.is("its REDUCE stays", 6, mill.count(47));
        mill.clear(1);
        Due.is("THE CHAIN has the other", 1, mill.begin());
        mill.finish();
        Due.is("it did not run", 0, mill.size(1));
        mill.job(7, 0, -1, 1, 1);
        Due.is("it can be made again", -1, Due.runAlone(mill));
        Due.file("and runs", mill, 1, 1, 2);
        Due.end();
    }
}
