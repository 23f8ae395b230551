import java.util.function.Consumer;

/** A CHAIN of three JOBS that is run quietly and, beside it, with ticks, crashes and losses: the same comes of it. */
final class Trials {
    private Trials() {
    }

    private static ShuffleMill make() {
        ShuffleMill mill = new ShuffleMill();
        for (int i = 0; i < 40; i++) {
            mill.record(0, i * 7 % 11 - 5, i * i % 23);
        }
        Due.give(mill, 0, Due.MAP, Due.COPY);
        Due.give(mill, 0, Due.COMBINE, Due.COMBINE_SUM);
        Due.give(mill, 0, Due.REDUCE, Due.SUM);
        mill.job(0, 0, 0, 1, 4);
        // four pairs a RECORD: more than a WORKER's memory, and a page on the line, take at once
        Due.give(mill, 1, Due.MAP, 2, 0, 1, 0, 17, 0, 1, 0, 2, 0, 17, 0, 1, 0, 12, 0, 17, 0, 2, 0, 12, 0, 17, 0);
        Due.give(mill, 1, Due.REDUCE, Due.SUM);
        mill.job(1, 1, 0, 2, 2);
        Due.copyJob(mill, 2, 2, 1, 3, 6);
        return mill;
    }

    /**
     * Troubles may be some 280 calls, so that no mill gets more than 512. All that JOBS 0 and 1 make goes into what
     * JOB 2 makes, which is read whole.
     */
    static void compare(String what, Consumer<ShuffleMill> trouble) {
        ShuffleMill quiet = make();
        quiet.begin();
        Due.is(what + ": the quiet end", -1, quiet.finish());
        ShuffleMill mill = make();
        Due.is(what + ": begin", 3, mill.begin());
        trouble.accept(mill);
        Due.is(what + ": check in THE RUN", 0, mill.check());
        Due.is(what + ": THE RUN goes on", 1, mill.count(0));
        Due.badState(what + ": told in THE RUN", () -> mill.told(3, 0, false));
        Due.is(what + ": finish", -1, mill.finish());
        Due.is(what + ": check", 0, mill.check());
        for (int f = 0; f < 16; f++) {
            Due.is(what + ": size of " + f, quiet.size(f), mill.size(f));
        }
        int size = mill.size(3);
        Due.yes(what + ": something came of it", size > 30);
        for (int i = 0; i < Math.min(size, quiet.size(3)); i++) {
            Due.is(what + ": key", quiet.told(3, i, false), mill.told(3, i, false));
            Due.is(what + ": value", quiet.told(3, i, true), mill.told(3, i, true));
        }
    }
}
