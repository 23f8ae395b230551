import java.io.IOException;
import java.lang.reflect.InvocationTargetException;
import java.lang.reflect.Method;
import java.nio.file.DirectoryStream;
import java.nio.file.Files;
import java.nio.file.Path;
import java.util.regex.Matcher;
import java.util.regex.Pattern;

/** README.md: its example answers what it says, and it names every call, every INSTRUCTION and every test. */
final class ReadmeTest {
    private static final Pattern CALL = Pattern.compile("mill\\.(\\w+)\\(([^)]*)\\);( +// (.*))?");
    private static final Pattern ANSWER = Pattern.compile("answers (-?\\d+).*");

    public static void main(String[] args) throws ReflectiveOperationException, IOException {
        String text = Files.readString(Path.of("README.md"));
        example(text.substring(text.indexOf("```java\n"), text.indexOf("\n```\n", text.indexOf("```java\n"))));
        for (Method method : ShuffleMill.class.getMethods()) {
            if (method.getDeclaringClass() == ShuffleMill.class) {
                Due.yes("README names " + method.getName(), text.contains("\n| `" + method.getName() + "("));
            }
        }
        for (int op = 0; op <= 18; op++) {
            Due.yes("README names INSTRUCTION " + op, text.contains("| " + op + " | "));
        }
        tests(text);
        Due.end();
    }

    private static void example(String code) throws ReflectiveOperationException {
        ShuffleMill mill = new ShuffleMill();
        int answers = 0;
        for (String line : code.split("\n")) {
            Matcher call = CALL.matcher(line);
            if (!call.matches()) {
                Due.yes("no call: " + line, line.isEmpty() || line.startsWith("```") || line.contains(" = new "));
                continue;
            }
            Object got = answer(mill, call.group(1), call.group(2));
            Matcher due = ANSWER.matcher(call.group(4) == null ? "" : call.group(4));
            if (due.matches()) {
                answers++;
                Due.same(line, due.group(1), String.valueOf(got));
            }
        }
        Due.yes("the example tells answers", answers > 5);
    }

    private static Object answer(ShuffleMill mill, String name, String args) throws ReflectiveOperationException {
        String[] words = args.isEmpty() ? new String[0] : args.split(", ");
        for (Method method : ShuffleMill.class.getMethods()) {
            if (method.getName().equals(name) && method.getParameterCount() == words.length) {
                try {
                    return method.invoke(mill, values(method.getParameterTypes(), words));
                } catch (InvocationTargetException e) {
                    return e.getCause();
                }
            }
        }
        return "no such call";
    }

    private static Object[] values(Class<?>[] types, String[] words) {
        Object[] values = new Object[words.length];
        for (int i = 0; i < words.length; i++) {
            if (types[i] == boolean.class) {
                values[i] = Boolean.valueOf(words[i]);
            } else if (types[i] == long.class) {
                values[i] = Long.decode(words[i]);
            } else {
                values[i] = Integer.decode(words[i]);
            }
        }
        return values;
    }

    private static void tests(String text) throws IOException {
        try (DirectoryStream<Path> files = Files.newDirectoryStream(Path.of("src/test/java"), "*.java")) {
            for (Path file : files) {
                String name = file.getFileName().toString().replace(".java", "");
                String told = name.replaceAll("^Promise\\d\\d\\w+Test$", "PromiseNN...Test")
                        .replaceAll("^(Terms\\d)\\w+Test$", "$1...Test");
                Due.yes("README names " + name, text.contains("`" + told + "`") || text.contains("`" + told + "."));
            }
        }
    }
}
