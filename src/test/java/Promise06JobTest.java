/** job: a JOB is made, anew if it was. */
final class Promise06JobTest {
    public static void main(String[] args) {
        wrongInputs();
        inputs();
        parts();
        Due.end();
    }

    private static void wrongInputs() {
        ShuffleMill mill = new ShuffleMill();
        Due.badState("without PROGRAMS", () -> mill.job(0, 0, 1, 2, 1));
        Due.give(mill, 0, Due.MAP, Due.COPY);
        Due.badState("without a REDUCE", () -> mill.job(0, 0, 1, 2, 1));
        Due.give(mill, 1, Due.REDUCE, Due.EACH);
        Due.badState("without a MAP", () -> mill.job(1, 0, 1, 2, 1));
        Due.is("none is made", 0, mill.count(1));
        Due.give(mill, 0, Due.REDUCE, Due.EACH);
        mill.job(0, 15, 15, 0, 6);
        Due.is("one is made", 1, mill.count(10));

        Due.noFile("JOB -1", () -> mill.job(-1, 0, 1, 2, 1));
        Due.noFile("JOB 8", () -> mill.job(8, 0, 1, 2, 1));
        Due.noFile("JOB 8 and nothing right", () -> mill.job(8, 16, 16, 16, 0));
        int[][] wrong = {{-1, 1, 2, 1}, {16, 1, 2, 1}, {0, -2, 2, 1}, {0, 16, 2, 1}, {0, 1, -1, 1}, {0, 1, 16, 1},
            {0, 1, 2, 0}, {0, 1, 2, 7}, {0, 1, 2, -1}};
        for (int[] w : wrong) {
            Due.badArgument("a wrong JOB", () -> mill.job(0, w[0], w[1], w[2], w[3]));
            Due.badArgument("a wrong JOB without PROGRAMS", () -> mill.job(5, w[0], w[1], w[2], w[3]));
        }
        mill.begin();
        Due.badState("job in THE RUN", () -> mill.job(0, 0, 1, 2, 1));
        Due.badArgument("a wrong JOB in THE RUN", () -> mill.job(0, 0, 1, 2, 7));
        Due.noFile("JOB 8 in THE RUN", () -> mill.job(8, 0, 1, 2, 1));
        mill.finish();
    }

    private static void inputs() {
        ShuffleMill mill = new ShuffleMill();
        mill.record(0, 1, 10);
        mill.record(1, 1, 20);
        Due.copyJob(mill, 0, 0, 1, 2, 1);
        Due.is("two INPUTS", -1, Due.runAlone(mill));
        Due.file("one behind the other", mill, 2, 1, 10, 1, 20);
        mill.job(0, 1, 0, 2, 1);
        Due.is("one JOB, made anew", 1, mill.begin());
        mill.finish();
        Due.file("the other way", mill, 2, 1, 20, 1, 10);
        mill.job(0, 1, -1, 3, 1);
        Due.is("one INPUT", -1, Due.runAlone(mill));
        Due.file("it alone", mill, 3, 1, 20);
        mill.job(0, 1, 1, 3, 1);
        Due.is("the same INPUT twice", -1, Due.runAlone(mill));
        Due.file("is taken twice", mill, 3, 1, 20, 1, 20);
        Due.file("INPUTS stay", mill, 0, 1, 10);
        Due.file("INPUTS stay", mill, 1, 1, 20);
        mill.job(0, 9, 8, 3, 6);
        Due.is("empty INPUTS", -1, Due.runAlone(mill));
        Due.is("make an empty OUTPUT", 0, mill.size(3));
        mill.job(0, 9, 0, 3, 6);
        Due.is("an empty INPUT first", -1, Due.runAlone(mill));
        Due.file("the second one's", mill, 3, 1, 10);
    }

    private static void parts() {
        ShuffleMill mill = new ShuffleMill();
        long[] keys = {5, -1, 0, 3, -3, 2, 1, -2, 4, Long.MIN_VALUE, Long.MAX_VALUE};
        for (long key : keys) {
            mill.record(0, key, 2 * key);
        }
        Due.copyJob(mill, 2, 0, -1, 1, 1);
        mill.begin();
        mill.finish();
        order(mill, "one PART", Long.MIN_VALUE, -3, -2, -1, 0, 1, 2, 3, 4, 5, Long.MAX_VALUE);
        mill.job(2, 0, -1, 1, 3);
        mill.begin();
        mill.finish();
        order(mill, "three PARTS", -3, 0, 3, Long.MIN_VALUE, -2, 1, 4, Long.MAX_VALUE, -1, 2, 5);
        mill.job(2, 0, -1, 1, 6);
        mill.begin();
        mill.finish();
        order(mill, "six PARTS", 0, 1, Long.MAX_VALUE, 2, -3, 3, Long.MIN_VALUE, -2, 4, -1, 5);
    }

    private static void order(ShuffleMill mill, String what, long... keys) {
        long[] pairs = new long[2 * keys.length];
        for (int i = 0; i < keys.length; i++) {
            pairs[2 * i] = keys[i];
            pairs[2 * i + 1] = 2 * keys[i];
        }
        Due.file(what, mill, 1, pairs);
    }
}
