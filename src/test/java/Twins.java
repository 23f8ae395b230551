import java.util.ArrayList;
import java.util.List;
import java.util.function.Consumer;

/**
 * Two mills that are told the same, but for one call that is refused, which only one of them hears: nothing that can
 * be seen then, nor what comes of all that they hold, tells them apart. No mill gets more than 512 calls.
 */
final class Twins {
    private Twins() {
    }

    static void refuses(String what, Class<? extends RuntimeException> why, Consumer<ShuffleMill> state,
            Consumer<ShuffleMill> call) {
        ShuffleMill calm = new ShuffleMill();
        state.accept(calm);
        ShuffleMill mill = new ShuffleMill();
        state.accept(mill);
        Due.thrown(what, why, () -> call.accept(mill));
        List<String> want = everything(calm);
        List<String> got = everything(mill);
        for (int i = 0; i < want.size() && i < got.size(); i++) {
            if (!want.get(i).equals(got.get(i))) {
                Due.same(what + ": behind it, row " + i, want.get(i), got.get(i));
                return;
            }
        }
        Due.is(what + ": rows behind it", want.size(), got.size());
    }

    static void noSuch(String what, Consumer<ShuffleMill> state, Consumer<ShuffleMill> call) {
        refuses(what, IndexOutOfBoundsException.class, state, call);
    }

    static void badArgument(String what, Consumer<ShuffleMill> state, Consumer<ShuffleMill> call) {
        refuses(what, IllegalArgumentException.class, state, call);
    }

    static void badState(String what, Consumer<ShuffleMill> state, Consumer<ShuffleMill> call) {
        refuses(what, IllegalStateException.class, state, call);
    }

    /** A new object. */
    static void fresh(ShuffleMill mill) {
    }

    /**
     * RECORDS in FILES 0, 1 and 15; JOB 0 is made, and has all PROGRAMS; JOB 7 has a MAP and a REDUCE, JOB 2 a MAP,
     * JOB 3 a REDUCE, and neither is made; three INSTRUCTIONS are put together.
     */
    static void rest(ShuffleMill mill) {
        for (int i = 0; i < 18; i++) {
            mill.record(0, i % 5 - 2, i);
        }
        mill.record(1, 77, 7);
        mill.record(15, 9, 9);
        Due.give(mill, 0, Due.MAP, Due.COPY);
        Due.give(mill, 0, Due.COMBINE, Due.COMBINE_SUM);
        Due.give(mill, 0, Due.REDUCE, Due.SUM);
        mill.job(0, 0, 15, 1, 4);
        Due.give(mill, 7, Due.MAP, Due.COPY);
        Due.give(mill, 7, Due.REDUCE, Due.EACH);
        Due.give(mill, 2, Due.MAP, Due.COPY);
        Due.give(mill, 3, Due.REDUCE, Due.EACH);
        mill.code(1, 0);
        mill.code(0, 4);
        mill.code(17, 0);
    }

    /** THE RUN has begun, and is somewhere in the middle. */
    static void running(ShuffleMill mill) {
        rest(mill);
        mill.begin();
        for (int i = 0; i < 28; i++) {
            mill.tick(i % 7, 3);
        }
    }

    /** THE RUN is over. */
    static void over(ShuffleMill mill) {
        rest(mill);
        mill.begin();
        mill.finish();
    }

    /** All states in which THE RUN does not go on. */
    static final List<Consumer<ShuffleMill>> STILL = List.of(Twins::fresh, Twins::rest, Twins::over);

    /** These, and one in which it does. */
    static final List<Consumer<ShuffleMill>> ALL = List.of(Twins::fresh, Twins::rest, Twins::over, Twins::running);

    private static List<String> everything(ShuffleMill mill) {
        List<String> rows = new ArrayList<>();
        counts(rows, mill);
        if (mill.count(0) == 1) {
            rows.add("finish " + mill.finish());
            counts(rows, mill);
        }
        for (int f = 0; f < 16; f++) {
            file(rows, mill, f);
        }
        run(rows, mill);
        file(rows, mill, 1);
        putTogether(rows, mill);
        return rows;
    }

    private static void counts(List<String> rows, ShuffleMill mill) {
        for (int what = 0; what <= 3; what++) {
            rows.add("count " + what + " " + mill.count(what));
        }
        for (int what = 10; what < 50; what += 10) {
            for (int j = 0; j < 8; j++) {
                rows.add("count " + (what + j) + " " + mill.count(what + j));
            }
        }
        rows.add("check " + mill.check());
    }

    /** The first RECORDS, and the last: a full FILE has more than there are calls. */
    private static void file(List<String> rows, ShuffleMill mill, int f) {
        int size = mill.size(f);
        rows.add("size " + f + " " + size);
        for (int i = 0; i < size; i++) {
            if (i < 20 || i == size - 1) {
                rows.add("told " + f + " " + i + " " + mill.told(f, i, false) + " " + mill.told(f, i, true));
            }
        }
    }

    private static void run(List<String> rows, ShuffleMill mill) {
        try {
            rows.add("begin " + mill.begin());
        } catch (UnsupportedOperationException e) {
            rows.add("begin can not be");
            return;
        }
        rows.add("finish " + mill.finish());
    }

    /** What was put together is JOB 7's REDUCE now, and is run alone. */
    private static void putTogether(List<String> rows, ShuffleMill mill) {
        if (mill.count(2) == 0) {
            return;
        }
        try {
            rows.add("program " + mill.program(7, Due.REDUCE));
        } catch (IllegalArgumentException e) {
            rows.add("program goes behind its end");
            for (int length = mill.count(2); length < 40; length++) {
                mill.code(18, 0);
            }
            rows.add("program " + mill.program(7, Due.REDUCE));
        }
        for (int j = 0; j < 8; j++) {
            rows.add("drop " + j + " " + mill.drop(j));
        }
        Due.give(mill, 7, Due.MAP, Due.COPY);
        mill.job(7, 0, -1, 14, 2);
        run(rows, mill);
        file(rows, mill, 14);
    }
}
