import java.util.Arrays;

/** One JOB over RECORDS of KEY 3 with VALUES 5, 6 and so on, whose MAP, COMBINE or REDUCE is the PROGRAM to be seen. */
final class Calls {
    static final int[] PLACES = {Due.MAP, Due.COMBINE, Due.REDUCE};
    private static final String[] NAMES = {"MAP", "COMBINE", "REDUCE"};

    private Calls() {
    }

    static String of(int place) {
        return ", of " + NAMES[place];
    }

    private static ShuffleMill mill(int place, int records, long[] code) {
        ShuffleMill mill = new ShuffleMill();
        for (int i = 0; i < records; i++) {
            mill.record(0, 3, 5 + i);
        }
        Due.copyJob(mill, 0, 0, -1, 1, 1);
        mill.record(1, 8, 8);
        Due.give(mill, 0, place, code);
        return mill;
    }

    /** The JOB is done, and makes these RECORDS, KEY and VALUE in turn. */
    static void made(String what, int place, int records, long[] code, long... want) {
        ShuffleMill mill = mill(place, records, code);
        Due.is(what + of(place) + ": finish", -1, Due.runAlone(mill));
        Due.file(what + of(place), mill, 1, want);
    }

    /** The JOB FAILS, and its OUTPUT stays. */
    static void trap(String what, int place, int records, long... code) {
        ShuffleMill mill = mill(place, records, code);
        Due.is(what + of(place) + ": finish", 0, Due.runAlone(mill));
        Due.file(what + of(place) + ": the OUTPUT stays", mill, 1, 8, 8);
    }

    /** Emits what lies on top; MAP and REDUCE with KEY 9, COMBINE with the KEY, which is 3. */
    static long[] emitTop(int place) {
        return place == Due.COMBINE ? new long[] {17, 0} : new long[] {0, 9, 14, 0, 17, 0};
    }

    static long keyOf(int place) {
        return place == Due.COMBINE ? 3 : 9;
    }

    /** Behind this code, in each place, this lies on top of the stack. */
    static void top(String what, long want, long... code) {
        for (int place : PLACES) {
            made(what, place, 1, join(code, emitTop(place)), keyOf(place), want);
        }
    }

    static void trapEverywhere(String what, long... code) {
        for (int place : PLACES) {
            trap(what, place, 1, code);
        }
    }

    static long[] code(long... code) {
        return code;
    }

    static long[] join(long[]... codes) {
        int length = 0;
        for (long[] code : codes) {
            length += code.length;
        }
        long[] all = new long[length];
        int at = 0;
        for (long[] code : codes) {
            System.arraycopy(code, 0, all, at, code.length);
            at += code.length;
        }
        return all;
    }

    static long[] times(int n, long... code) {
        long[][] all = new long[n][];
        Arrays.fill(all, code);
        return join(all);
    }

    /** INSTRUCTIONS that do nothing but count: each goes to the next, the first of them being this one. */
    static long[] pads(int n, int first) {
        long[] code = new long[2 * n];
        for (int i = 0; i < n; i++) {
            code[2 * i] = 15;
            code[2 * i + 1] = first + i + 1;
        }
        return code;
    }
}
