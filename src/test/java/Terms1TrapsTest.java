/** Terms 1, 'A TRAP is': each kind of TRAP, and the last thing before it that is none. */
final class Terms1TrapsTest {
    /** Behind 1 INSTRUCTION 55 turns of 6, then behind 1 more 8 turns of 6: 380 in 14 INSTRUCTIONS. */
    private static final long[] LOOPS = {0, -55, 0, 1, 6, 0, 12, 0, 0, 0, 11, 0, 16, 1,
        0, -8, 0, 1, 6, 0, 12, 0, 0, 0, 11, 0, 16, 8};
    private static final int LOOPED = 380;

    public static void main(String[] args) {
        Due.test("more than 400 INSTRUCTIONS", Terms1TrapsTest::tooMany);
        Due.test("(18 is one)", Terms1TrapsTest::eighteenIsOne);
        Due.test("(the end is none)", Terms1TrapsTest::theEndIsNone);
        Due.test("400 INSTRUCTIONS of one call, not of all", Terms1TrapsTest::ofOneCall);
        Due.test("a call that would never end", Terms1TrapsTest::neverEnds);
        Due.test("/ by 0", Terms1TrapsTest::byZero);
        Due.test("a stack too full", Terms1TrapsTest::tooFull);
        Due.test("a stack too empty", Terms1TrapsTest::tooEmpty);
        Due.test("2 without a next one", Terms1TrapsTest::noNext);
        Due.test("a fifth EMIT by one call", Terms1TrapsTest::fifthEmit);
        Due.test("what is never done is no TRAP", Terms1TrapsTest::neverDone);
        Due.end();
    }

    private static long[] emit(int place) {
        return Calls.join(Calls.code(0, 4), Calls.emitTop(place));
    }

    /** A call that does so many INSTRUCTIONS, the last of them being these. */
    private static long[] done(int many, long... last) {
        return Calls.join(LOOPS, Calls.pads(many - LOOPED - last.length / 2, 14), last);
    }

    private static void tooMany() {
        for (int place : Calls.PLACES) {
            Calls.made("399", place, 1, done(399, emit(place)), Calls.keyOf(place), 4);
            Calls.made("400", place, 1, done(400, emit(place)), Calls.keyOf(place), 4);
            Calls.trap("401", place, 1, done(401, emit(place)));
        }
    }

    private static void eighteenIsOne() {
        for (int place : Calls.PLACES) {
            Calls.made("18 as the 400th", place, 1, done(400, Calls.join(emit(place), Calls.code(18, 0))),
                    Calls.keyOf(place), 4);
            Calls.trap("18 as the 401st", place, 1, done(401, Calls.join(emit(place), Calls.code(18, 0))));
        }
    }

    private static void theEndIsNone() {
        for (int place : Calls.PLACES) {
            long[] code = done(399, emit(place));
            int end = code.length / 2 + 1;
            Calls.made("the 400th goes to the end", place, 1, Calls.join(code, Calls.code(15, end)),
                    Calls.keyOf(place), 4);
            long[] more = done(400, emit(place));
            Calls.trap("the 401st goes to the end", place, 1, Calls.join(more, Calls.code(15, more.length / 2 + 1)));
        }
    }

    private static void ofOneCall() {
        Calls.made("three calls of 400", Due.MAP, 3, done(400, emit(Due.MAP)), 9, 4, 9, 4, 9, 4);
        Calls.made("two of MAP with 400 before one of REDUCE", Due.MAP, 2,
                done(400, Calls.code(1, 0, 2, 0, 17, 0)), 3, 5, 3, 6);
    }

    private static void neverEnds() {
        Calls.trapEverywhere("15 to itself", 15, 0);
        Calls.trapEverywhere("back and back", 0, 1, 13, 0, 15, 0);
        Calls.trapEverywhere("16 back", 0, 0, 16, 0);
    }

    private static void byZero() {
        Calls.trapEverywhere("1 / 0", 0, 1, 0, 0, 9, 0);
        Calls.trapEverywhere("0 / 0", 0, 0, 0, 0, 9, 0);
        Calls.trapEverywhere("the least / 0", 0, Long.MIN_VALUE, 0, 0, 9, 0);
        Calls.top("0 / 1", 0, 0, 0, 0, 1, 9, 0);
        Calls.top("7 / 2^32 is not / 0", 0, 0, 7, 0, 1L << 32, 9, 0);
    }

    private static void tooFull() {
        for (int op : new int[] {0, 1, 3, 4, 12}) {
            for (int place : Calls.PLACES) {
                Calls.made("a 12th by " + op, place, 1, Calls.join(Calls.times(11, 0, 1), Calls.code(op, 0)));
                Calls.trap("a 13th by " + op, place, 1, Calls.join(Calls.times(12, 0, 1), Calls.code(op, 0)));
            }
        }
        for (int place : Calls.PLACES) {
            Calls.made("a 12th by 2", place, 13, Calls.times(12, 2, 0));
            Calls.trap("a 13th by 2", place, 13, Calls.times(13, 2, 0));
            Calls.made("12, one less and one more", place, 1, Calls.join(Calls.times(12, 0, 1),
                    Calls.code(13, 0, 0, 1)));
            Calls.made("14 with 12", place, 1, Calls.join(Calls.times(12, 0, 1), Calls.code(14, 0)));
            Calls.made("+ with 12", place, 1, Calls.join(Calls.times(12, 0, 1), Calls.code(6, 0)));
        }
    }

    private static void tooEmpty() {
        for (int op : new int[] {5, 12, 13, 16}) {
            Calls.trapEverywhere(op + " with none", op, 0, 18, 0);
            for (int place : Calls.PLACES) {
                Calls.made(op + " with one", place, 1, Calls.code(0, 1, op, 0, 18, 0));
            }
        }
        for (int op : new int[] {6, 7, 8, 9, 10, 11, 14}) {
            Calls.trapEverywhere(op + " with none", op, 0, 18, 0);
            Calls.trapEverywhere(op + " with one", 0, 1, op, 0, 18, 0);
            for (int place : Calls.PLACES) {
                Calls.made(op + " with two", place, 1, Calls.code(0, 1, 0, 1, op, 0, 18, 0));
            }
        }
        Calls.trapEverywhere("17 with none", 17, 0);
        Calls.trap("17 with one", Due.MAP, 1, 0, 1, 17, 0);
        Calls.trap("17 with one", Due.REDUCE, 1, 0, 1, 17, 0);
        Calls.made("17 with one", Due.COMBINE, 1, Calls.code(0, 1, 17, 0), 3, 1);
        Calls.trapEverywhere("behind all that was pushed", 0, 1, 13, 0, 13, 0);
    }

    private static void noNext() {
        for (int place : new int[] {Due.COMBINE, Due.REDUCE}) {
            for (int values = 1; values <= 3; values++) {
                Calls.made(values + " of " + values, place, values, Calls.times(values, 2, 0));
                Calls.trap(values + 1 + " of " + values, place, values, Calls.times(values + 1, 2, 0));
            }
        }
        Calls.made("of MAP there is no such TRAP", Due.MAP, 1, Calls.times(12, 2, 0));
        ShuffleMill mill = new ShuffleMill();
        mill.record(0, 1, 10);
        mill.record(0, 2, 20);
        Due.copyJob(mill, 0, 0, -1, 1, 1);
        Due.give(mill, 0, Due.REDUCE, 2, 0, 2, 0);
        Due.is("another KEY's VALUE is no next one", 0, Due.runAlone(mill));
    }

    private static void fifthEmit() {
        for (int place : Calls.PLACES) {
            long[] emit = place == Due.COMBINE ? Calls.code(1, 0, 17, 0) : Calls.code(1, 0, 1, 0, 17, 0);
            Calls.made("three", place, 1, Calls.times(3, emit), 3, 3, 3, 3, 3, 3);
            Calls.made("four", place, 1, Calls.times(4, emit), 3, 3, 3, 3, 3, 3, 3, 3);
            Calls.trap("five", place, 1, Calls.times(5, emit));
        }
        Calls.made("four by each of two calls", Due.MAP, 2, Calls.times(4, 2, 0, 2, 0, 17, 0),
                5, 5, 5, 5, 5, 5, 5, 5, 6, 6, 6, 6, 6, 6, 6, 6);
    }

    private static void neverDone() {
        for (int place : Calls.PLACES) {
            Calls.made("/ by 0 behind 18", place, 1, Calls.code(18, 0, 0, 0, 0, 0, 9, 0));
            Calls.made("13 that is gone over", place, 1, Calls.code(15, 2, 13, 0));
        }
        ShuffleMill mill = new ShuffleMill();
        Due.copyJob(mill, 0, 0, -1, 1, 1);
        for (int place : Calls.PLACES) {
            Due.give(mill, 0, place, 13, 0);
        }
        Due.is("PROGRAMS that nothing calls", -1, Due.runAlone(mill));
    }
}
