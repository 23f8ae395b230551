import java.lang.reflect.Constructor;
import java.lang.reflect.Field;
import java.lang.reflect.Method;
import java.lang.reflect.Modifier;
import java.util.Arrays;
import java.util.TreeSet;

/** A new object: FILES are empty, there are no JOBS; and the public face is the document's. */
final class Promise01NewObjectTest {
    public static void main(String[] args) {
        ShuffleMill mill = new ShuffleMill();
        for (int f = 0; f < 16; f++) {
            Due.is("size of a new FILE", 0, mill.size(f));
        }
        for (int what = 0; what <= 3; what++) {
            Due.is("count " + what + " of a new object", 0, mill.count(what));
        }
        for (int what = 10; what < 50; what += 10) {
            for (int j = 0; j < 8; j++) {
                Due.is("count " + (what + j) + " of a new object", 0, mill.count(what + j));
            }
        }
        Due.is("check of a new object", 0, mill.check());
        Due.is("a RUN without JOBS", 0, mill.begin());
        Due.is("its end", -1, mill.finish());
        ShuffleMill other = new ShuffleMill();
        mill.record(0, 1, 2);
        Due.is("objects share nothing", 0, other.size(0));
        face();
        Due.end();
    }

    private static void face() {
        TreeSet<String> names = new TreeSet<>();
        for (Method method : ShuffleMill.class.getDeclaredMethods()) {
            if (!Modifier.isPrivate(method.getModifiers())) {
                names.add(method.getReturnType() + " " + method.getName()
                        + Arrays.toString(method.getParameterTypes()));
            }
        }
        TreeSet<String> want = new TreeSet<>(Arrays.asList(
                "int record[int, long, long]", "int clear[int]", "int code[int, long]", "int program[int, int]",
                "void job[int, int, int, int, int]", "boolean drop[int]", "int begin[]", "void tick[int, int]",
                "void crash[int]", "void line[int, int]", "int finish[]", "long told[int, int, boolean]",
                "int size[int]", "int count[int]", "int check[]"));
        Due.same("methods of the face", want, names);
        Constructor<?>[] constructors = ShuffleMill.class.getDeclaredConstructors();
        Due.is("constructors", 1, constructors.length);
        Due.is("the constructor is public, without arguments", 1,
                Modifier.isPublic(constructors[0].getModifiers()) && constructors[0].getParameterCount() == 0 ? 1 : 0);
        for (Field field : ShuffleMill.class.getDeclaredFields()) {
            Due.is("field " + field.getName() + " is private", 1, Modifier.isPrivate(field.getModifiers()) ? 1 : 0);
        }
        Due.is("the class is public and final", Modifier.PUBLIC | Modifier.FINAL, ShuffleMill.class.getModifiers());
    }
}
