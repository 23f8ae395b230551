import java.lang.reflect.InvocationTargetException;
import java.lang.reflect.Method;
import java.util.ArrayList;
import java.util.Arrays;
import java.util.List;
import java.util.function.Consumer;

/**
 * Every call of the face, in every state, with numbers far out and close to every limit of the document: it answers or
 * throws as a PlainMill does, and nothing else reaches its caller. No mill gets more than 512 calls.
 */
final class AnyArgumentsTest {
    private static final int[] INTS = {Integer.MIN_VALUE, Integer.MIN_VALUE + 1, -65536, -11, -10, -2, -1, 0, 1, 2, 3, 4,
        5, 6, 7, 8, 9, 10, 15, 16, 17, 18, 19, 20, 27, 28, 30, 37, 40, 41, 47, 48, 50, 199, 200, 201, 299, 300, 65536,
        Integer.MAX_VALUE - 1, Integer.MAX_VALUE};
    /** For job, which takes five. */
    private static final int[] FEW_INTS = {Integer.MIN_VALUE, -2, -1, 0, 6, 7, 8, 15, 16, Integer.MAX_VALUE};
    /** Some of them look allowed if they are cut to an int. */
    private static final long[] LONGS = {Long.MIN_VALUE, Integer.MIN_VALUE, -4294967296L, -1, 0, 1, 3, 4, 39, 40, 41,
        4294967296L, 4294967299L, 4294967336L, Integer.MAX_VALUE, Long.MAX_VALUE};

    /** Leaves room for what a state needs, and for the calls behind it. */
    private static final int CALLS = 300;

    private final ShuffleMill mill = new ShuffleMill();
    private final PlainMill plain = new PlainMill();

    private Object call(String name, Object... args) {
        Object want = answer(plain, name, args);
        Due.same(name + Arrays.toString(args), want, answer(mill, name, args));
        return want;
    }

    private static Object answer(Object target, String name, Object... args) {
        for (Method method : target.getClass().getDeclaredMethods()) {
            if (method.getName().equals(name) && method.getParameterCount() == args.length) {
                try {
                    return method.invoke(target, args);
                } catch (InvocationTargetException e) {
                    return e.getCause().getClass();
                } catch (IllegalAccessException e) {
                    return e;
                }
            }
        }
        return "no such call";
    }

    public static void main(String[] args) {
        Due.test("a new object", () -> allCalls(two -> { }));
        Due.test("a JOB is made, a PROGRAM is put together", () -> allCalls(AnyArgumentsTest::rest));
        Due.test("a FILE and the PROGRAM that is put together are full", () -> allCalls(AnyArgumentsTest::full));
        Due.test("THE RUN has begun", () -> allCalls(AnyArgumentsTest::begun));
        Due.test("THE RUN goes on", () -> allCalls(AnyArgumentsTest::running));
        Due.test("all have crashed", () -> allCalls(AnyArgumentsTest::crashed));
        Due.test("THE RUN is over", () -> allCalls(AnyArgumentsTest::over));
        Due.test("a JOB FAILED", () -> allCalls(AnyArgumentsTest::failed));
        Due.end();
    }

    private static void allCalls(Consumer<AnyArgumentsTest> state) {
        for (Method method : ShuffleMill.class.getMethods()) {
            if (method.getDeclaringClass() == ShuffleMill.class) {
                inRuns(state, method.getName(), arguments(method.getParameterTypes()));
            }
        }
    }

    private static void inRuns(Consumer<AnyArgumentsTest> state, String name, List<Object[]> all) {
        for (int from = 0; from < all.size(); from += CALLS) {
            AnyArgumentsTest two = new AnyArgumentsTest();
            state.accept(two);
            for (Object[] args : all.subList(from, Math.min(from + CALLS, all.size()))) {
                two.call(name, args);
            }
            two.lookBehind();
        }
    }

    private static List<Object[]> arguments(Class<?>[] types) {
        List<Object[]> all = new ArrayList<>();
        all.add(new Object[0]);
        for (Class<?> type : types) {
            List<Object[]> longer = new ArrayList<>();
            for (Object[] head : all) {
                for (Object last : choices(type, types.length)) {
                    Object[] row = Arrays.copyOf(head, head.length + 1);
                    row[head.length] = last;
                    longer.add(row);
                }
            }
            all = longer;
        }
        return all;
    }

    private static List<Object> choices(Class<?> type, int parameters) {
        List<Object> choices = new ArrayList<>();
        if (type == boolean.class) {
            choices.addAll(List.of(false, true));
        } else if (type == long.class) {
            for (long x : LONGS) {
                choices.add(x);
            }
        } else {
            for (int x : parameters == 5 ? FEW_INTS : INTS) {
                choices.add(x);
            }
        }
        return choices;
    }

    private void lookBehind() {
        for (int what = 0; what <= 3; what++) {
            call("count", what);
        }
        call("check");
        call("begin");
        call("finish");
        for (int f = 0; f < 16; f++) {
            call("size", f);
            call("told", f, 0, false);
            call("told", f, 0, true);
        }
        call("check");
    }

    private void give(int j, int what, long... code) {
        for (int i = 0; i < code.length; i += 2) {
            call("code", (int) code[i], code[i + 1]);
        }
        call("program", j, what);
    }

    private void rest() {
        for (int i = 0; i < 18; i++) {
            call("record", 0, (long) (i % 5 - 2), (long) i);
        }
        give(0, Due.MAP, Due.COPY);
        give(0, Due.COMBINE, Due.COMBINE_SUM);
        give(0, Due.REDUCE, Due.SUM);
        call("job", 0, 0, 15, 1, 4);
        give(7, Due.MAP, Due.COPY);
        give(7, Due.REDUCE, Due.EACH);
        give(2, Due.MAP, Due.COPY);
        call("code", 15, 3L);
    }

    /** Four RECORDS of each, so that few calls fill a FILE. */
    private void full() {
        for (int i = 0; i < 75; i++) {
            call("record", 0, (long) i, (long) -i);
        }
        give(0, Due.MAP, 1, 0, 2, 0, 17, 0, 1, 0, 2, 0, 17, 0, 1, 0, 2, 0, 17, 0, 1, 0, 2, 0, 17, 0);
        give(0, Due.REDUCE, Due.EACH);
        call("job", 0, 0, -1, 1, 2);
        call("begin");
        call("finish");
        for (int i = 0; i < 40; i++) {
            call("code", 18, 0L);
        }
    }

    private void begun() {
        rest();
        call("begin");
    }

    private void running() {
        begun();
        for (int i = 0; i < 28; i++) {
            call("tick", i % 7, 3);
        }
    }

    private void crashed() {
        running();
        for (int w = 0; w < 7; w++) {
            call("crash", w);
        }
    }

    private void over() {
        begun();
        call("finish");
    }

    private void failed() {
        rest();
        for (int i = 0; i < 3; i++) {
            call("code", 13, 0L);
        }
        call("program", 7, Due.REDUCE);
        call("job", 7, 0, -1, 2, 6);
        call("begin");
        Due.same("the JOB that FAILED", 7, call("finish"));
    }
}
