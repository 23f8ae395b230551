import java.util.Objects;

/** What the tests share: answers that are due, exceptions that are due, and PROGRAMS written short. */
final class Due {
    static final int MAP = 0;
    static final int COMBINE = 1;
    static final int REDUCE = 2;

    /** Emits the KEY and the VALUE as they are. */
    static final long[] COPY = {1, 0, 2, 0, 17, 0};
    /** Of REDUCE: the KEY with the sum of its VALUES. */
    static final long[] SUM = {3, 0, 16, 7, 2, 0, 4, 0, 6, 0, 5, 0, 15, 0, 1, 0, 4, 0, 17, 0};
    /** Of COMBINE: the sum of the VALUES. */
    static final long[] COMBINE_SUM = {3, 0, 16, 7, 2, 0, 4, 0, 6, 0, 5, 0, 15, 0, 4, 0, 17, 0};
    /** Of REDUCE: each VALUE with the KEY. */
    static final long[] EACH = {3, 0, 16, 6, 1, 0, 2, 0, 17, 0, 15, 0};

    private static int asked = 0;
    private static int wrong = 0;
    private static int tests = 0;
    private static String sentence = "";

    interface Call {
        long answer();
    }

    interface Act {
        void run();
    }

    private Due() {
    }

    /** A test of its own for the words of the document that it stands under; what it throws is its own fault too. */
    static void test(String words, Act act) {
        int before = asked;
        sentence = words + ": ";
        tests++;
        try {
            act.run();
        } catch (RuntimeException e) {
            fault("threw " + e);
        }
        if (asked == before) {
            fault("asks nothing");
        }
        sentence = "";
    }

    private static void fault(String text) {
        wrong++;
        System.out.println(sentence + text);
    }

    static void is(String what, long want, long got) {
        asked++;
        if (got != want) {
            fault(what + " answered " + got + ", due is " + want);
        }
    }

    static void yes(String what, boolean got) {
        is(what, 1, got ? 1 : 0);
    }

    static void no(String what, boolean got) {
        is(what, 0, got ? 1 : 0);
    }

    static void same(String what, Object want, Object got) {
        asked++;
        if (!Objects.equals(want, got)) {
            fault(what + " answered " + got + ", due is " + want);
        }
    }

    static void thrown(String what, Class<? extends RuntimeException> want, Act act) {
        asked++;
        Class<?> got = null;
        try {
            act.run();
        } catch (RuntimeException e) {
            got = e.getClass();
        }
        if (got != want) {
            fault(what + " threw " + got + ", due is " + want);
        }
    }

    static void noFile(String what, Act act) {
        thrown(what, IndexOutOfBoundsException.class, act);
    }

    static void badArgument(String what, Act act) {
        thrown(what, IllegalArgumentException.class, act);
    }

    static void badState(String what, Act act) {
        thrown(what, IllegalStateException.class, act);
    }

    /** Puts a PROGRAM together, op and argument in turn, and gives it to a JOB. */
    static int give(ShuffleMill mill, int j, int what, long... code) {
        for (int i = 0; i < code.length; i += 2) {
            mill.code((int) code[i], code[i + 1]);
        }
        return mill.program(j, what);
    }

    /** A JOB with a MAP and a REDUCE that copy. */
    static void copyJob(ShuffleMill mill, int j, int a, int b, int output, int parts) {
        give(mill, j, MAP, COPY);
        give(mill, j, REDUCE, EACH);
        mill.job(j, a, b, output, parts);
    }

    /** A FILE's RECORDS are these, KEY and VALUE in turn. */
    static void file(String what, ShuffleMill mill, int f, long... pairs) {
        is(what + ": size", pairs.length / 2, mill.size(f));
        for (int i = 0; i < Math.min(mill.size(f), pairs.length / 2); i++) {
            is(what + ": key " + i, pairs[2 * i], mill.told(f, i, false));
            is(what + ": value " + i, pairs[2 * i + 1], mill.told(f, i, true));
        }
    }

    /** What finish answers for one JOB over one RECORD (or more): -1 if it did not FAIL. */
    static int runAlone(ShuffleMill mill) {
        mill.begin();
        return mill.finish();
    }

    static void end() {
        if (asked == 0) {
            System.out.println("nothing was asked");
            System.exit(1);
        }
        if (wrong > 0) {
            System.out.println(wrong + " of " + asked + " answers are wrong");
            System.exit(1);
        }
        if (tests > 0) {
            System.out.println("        " + tests + " tests, " + asked + " answers");
        }
    }
}
