import java.lang.reflect.Constructor;
import java.lang.reflect.Field;
import java.lang.reflect.Method;
import java.lang.reflect.Modifier;
import java.util.Arrays;
import java.util.TreeSet;

/** A new object: FILES are empty, there are no JOBS; and the public face is the document's. */
final class Promise01NewObjectTest {
    public static void main(String[] args) {
        Due.test("FILES are empty", Promise01NewObjectTest::files);
        Due.test("there are no JOBS", Promise01NewObjectTest::jobs);
        Due.test("nothing else is there", Promise01NewObjectTest::others);
        Due.test("objects share nothing", Promise01NewObjectTest::apart);
        Due.test("The public face", Promise01NewObjectTest::face);
        Due.end();
    }

    private static void files() {
        ShuffleMill mill = new ShuffleMill();
        for (int f = 0; f < 16; f++) {
            int at = f;
            Due.is("size", 0, mill.size(f));
            Due.noFile("RECORD 0", () -> mill.told(at, 0, false));
        }
    }

    private static void jobs() {
        ShuffleMill mill = new ShuffleMill();
        Due.is("JOBS", 0, mill.count(1));
        for (int j = 0; j < 8; j++) {
            int at = j;
            for (int what = 10; what < 50; what += 10) {
                Due.is("count " + (what + j), 0, mill.count(what + j));
            }
            Due.no("drop", mill.drop(j));
            Due.badState("job without PROGRAMS", () -> mill.job(at, 0, -1, 1, 1));
        }
        Due.is("begin", 0, mill.begin());
        Due.is("finish", -1, mill.finish());
    }

    private static void others() {
        ShuffleMill mill = new ShuffleMill();
        Due.is("THE RUN does not go on", 0, mill.count(0));
        Due.is("none is put together", 0, mill.count(2));
        Due.is("no RUN was begun", 0, mill.count(3));
        Due.is("check", 0, mill.check());
        Due.is("the first INSTRUCTION", 1, mill.code(0, 0));
    }

    private static void apart() {
        ShuffleMill mill = new ShuffleMill();
        ShuffleMill other = new ShuffleMill();
        mill.record(0, 1, 2);
        Due.copyJob(mill, 0, 0, -1, 1, 1);
        mill.code(0, 0);
        mill.begin();
        Due.is("size", 0, other.size(0));
        for (int what : new int[] {0, 1, 2, 3, 10, 20, 40}) {
            Due.is("count " + what, 0, other.count(what));
        }
        Due.is("size of a later one", 0, new ShuffleMill().size(0));
    }

    private static void face() {
        TreeSet<String> names = new TreeSet<>();
        for (Method method : ShuffleMill.class.getDeclaredMethods()) {
            if (!Modifier.isPrivate(method.getModifiers())) {
                names.add(method.getReturnType() + " " + method.getName()
                        + Arrays.toString(method.getParameterTypes()));
            }
        }
        TreeSet<String> want = new TreeSet<>(Arrays.asList(
                "int record[int, long, long]", "int clear[int]", "int code[int, long]", "int program[int, int]",
                "void job[int, int, int, int, int]", "boolean drop[int]", "int begin[]", "void tick[int, int]",
                "void crash[int]", "void line[int, int]", "int finish[]", "long told[int, int, boolean]",
                "int size[int]", "int count[int]", "int check[]"));
        Due.same("methods of the face", want, names);
        Constructor<?>[] constructors = ShuffleMill.class.getDeclaredConstructors();
        Due.is("constructors", 1, constructors.length);
        Due.is("the constructor is public, without arguments", 1,
                Modifier.isPublic(constructors[0].getModifiers()) && constructors[0].getParameterCount() == 0 ? 1 : 0);
        for (Field field : ShuffleMill.class.getDeclaredFields()) {
            Due.is("field " + field.getName() + " is private", 1, Modifier.isPrivate(field.getModifiers()) ? 1 : 0);
        }
        Due.is("the class is public and final", Modifier.PUBLIC | Modifier.FINAL, ShuffleMill.class.getModifiers());
    }
}
