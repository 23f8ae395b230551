import com.sun.management.ThreadMXBean;
import java.lang.management.ManagementFactory;
import java.lang.reflect.Array;
import java.lang.reflect.Field;
import java.lang.reflect.Modifier;
import java.util.ArrayDeque;
import java.util.Collections;
import java.util.IdentityHashMap;
import java.util.Set;

/** What an object and its calls take of the room: all rows are made by the constructor, and no call makes another. */
final class RoomTest {
    /** A small part of 600,000 objects and of 7.3 million fields and elements. */
    private static final int OBJECTS = 1000;
    private static final int ELEMENTS = 70000;

    private static final ThreadMXBean THREADS = (ThreadMXBean) ManagementFactory.getThreadMXBean();

    private int objects;
    private int elements;

    public static void main(String[] args) throws IllegalAccessException {
        ShuffleMill mill = new ShuffleMill();
        RoomTest before = measure(mill);
        Due.yes(before.objects + " objects are few", before.objects < OBJECTS);
        Due.yes(before.elements + " fields and elements are few", before.elements < ELEMENTS);
        manyCalls(mill);
        RoomTest behind = measure(mill);
        Due.is("objects behind many calls", before.objects, behind.objects);
        Due.is("fields and elements behind many calls", before.elements, behind.elements);
        Due.is("bytes that the calls make", 0, bytesOfCalls());
        System.out.println("        " + before.objects + " objects, " + before.elements + " fields and elements");
        Due.end();
    }

    /** Of the later ones, for the first ones load classes too. */
    private static long bytesOfCalls() {
        long least = Long.MAX_VALUE;
        for (int i = 0; i < 5; i++) {
            ShuffleMill mill = new ShuffleMill();
            long before = THREADS.getCurrentThreadAllocatedBytes();
            manyCalls(mill);
            long behind = THREADS.getCurrentThreadAllocatedBytes();
            least = Math.min(least, behind - before);
        }
        return least;
    }

    /** Every call of the face, none of which is refused. */
    private static void manyCalls(ShuffleMill mill) {
        for (int i = 0; i < 150; i++) {
            mill.record(i % 2, i * 7 % 11 - 5, i);
        }
        fold(mill, 0, 0, 1, 2);
        fold(mill, 1, 2, 2, 3);
        mill.begin();
        for (int i = 0; i < 140; i++) {
            mill.tick(i % 7, 1 + i % 5);
            if (i % 20 == 0) {
                mill.line(i * 977, i * 1013);
                mill.crash(i / 20);
                mill.check();
            }
        }
        mill.finish();
        for (int i = 0; i < mill.size(3); i++) {
            mill.told(3, i, true);
        }
        for (int what = 0; what <= 3; what++) {
            mill.count(what);
        }
        mill.check();
        mill.drop(1);
        mill.clear(3);
    }

    private static void fold(ShuffleMill mill, int j, int a, int b, int output) {
        put(mill, j, Due.MAP, Due.COPY);
        put(mill, j, Due.COMBINE, Due.COMBINE_SUM);
        put(mill, j, Due.REDUCE, Due.SUM);
        mill.job(j, a, b, output, 1 + j);
    }

    private static void put(ShuffleMill mill, int j, int what, long[] code) {
        for (int i = 0; i < code.length; i += 2) {
            mill.code((int) code[i], code[i + 1]);
        }
        mill.program(j, what);
    }

    private static RoomTest measure(Object root) throws IllegalAccessException {
        RoomTest room = new RoomTest();
        Set<Object> seen = Collections.newSetFromMap(new IdentityHashMap<>());
        ArrayDeque<Object> open = new ArrayDeque<>();
        seen.add(root);
        open.add(root);
        while (!open.isEmpty()) {
            room.look(open.remove(), seen, open);
        }
        return room;
    }

    private void look(Object object, Set<Object> seen, ArrayDeque<Object> open) throws IllegalAccessException {
        objects++;
        if (object.getClass().isArray()) {
            elements += Array.getLength(object);
            for (int i = 0; i < Array.getLength(object) && object instanceof Object[]; i++) {
                reach(Array.get(object, i), seen, open);
            }
            return;
        }
        for (Field field : object.getClass().getDeclaredFields()) {
            if (!Modifier.isStatic(field.getModifiers())) {
                elements++;
                field.setAccessible(true);
                if (!field.getType().isPrimitive()) {
                    reach(field.get(object), seen, open);
                }
            }
        }
    }

    private static void reach(Object object, Set<Object> seen, ArrayDeque<Object> open) {
        if (object != null && seen.add(object)) {
            open.add(object);
        }
    }
}
