import java.nio.file.Files;
import java.nio.file.Path;
import java.util.ArrayList;
import java.util.List;
import java.util.regex.Matcher;
import java.util.regex.Pattern;

/** Those rules of LANGUAGE.md that can be seen in the text of the program. */
final class LanguageTest {
    private static final Path PROGRAM = Path.of("src/main/java/ShuffleMill.java");

    private static final String[] FORBIDDEN = {"->", "::", "finally", "synchronized", "assert", "try", "catch",
        "new Random", "Thread", "hashCode", "equals", "getMessage", "Exact", "float", "double", "static \\{", "package",
        "protected", "@", "\\+ \"", "\" \\+", "volatile", "transient", "native", "var ", "goto"};

    public static void main(String[] args) throws Exception {
        String text = Files.readString(PROGRAM).replaceAll("(?s)/\\*.*?\\*/", "").replaceAll("//[^\n]*", "");
        for (String word : FORBIDDEN) {
            String sought = word.matches("\\w+") ? "\\b" + word + "\\b" : word;
            Due.is("places with " + word, 0, places(text, sought).size());
        }
        Due.same("imports", List.of("import java.util.Arrays;"), places(text, "import [^;]*;"));
        for (String call : places(text, "\\b(System|Arrays|Math|Integer|Long)\\.\\w+")) {
            Due.is(call + " is of the library that may be used", 1, List.of("System.arraycopy", "Arrays.fill",
                    "Math.floorMod", "Math.min", "Long.MAX_VALUE").contains(call) ? 1 : 0);
        }
        Due.is("classes inside that are not private and static", 1, places(text, "\\bclass \\w+").size()
                - places(text, "private static final class \\w+").size());
        statics(text);
        throwsOnlyListed(text);
        names(text);
        Due.end();
    }

    private static List<String> places(String text, String sought) {
        List<String> found = new ArrayList<>();
        Matcher matcher = Pattern.compile(sought).matcher(text);
        while (matcher.find()) {
            found.add(matcher.group());
        }
        return found;
    }

    private static void statics(String text) {
        for (String field : places(text, "(?m)^ *(private )?static [^({=;\n]*[=;]")) {
            Due.is(field + " is a constant", 1, field.matches(" *(private )?static final int \\w+ =") ? 1 : 0);
        }
    }

    private static void throwsOnlyListed(String text) {
        for (String thrown : places(text, "throw [^;]*;")) {
            Due.is(thrown, 1, thrown.matches("throw new (IllegalStateException|IllegalArgumentException"
                    + "|IndexOutOfBoundsException|UnsupportedOperationException)\\(\"[^\"]*\"\\);") ? 1 : 0);
        }
    }

    private static void names(String text) {
        for (String name : places(text, "(?m)^ +(private |static |final )*[\\w\\[\\]]+ \\w+\\(")) {
            String bare = name.replaceAll(".* ", "").replace("(", "");
            if (!name.contains("public ") && !name.contains("new ") && !name.contains("return ")) {
                Due.is(name.trim() + " has a name of the face", 0, List.of("record", "clear", "code", "program",
                        "job", "drop", "begin", "tick", "crash", "line", "finish", "told", "size", "count",
                        "check").contains(bare) ? 1 : 0);
            }
        }
    }
}
