import java.io.IOException;
import java.io.UncheckedIOException;
import java.lang.reflect.Executable;
import java.lang.reflect.Modifier;
import java.nio.file.Files;
import java.nio.file.Path;
import java.util.ArrayList;
import java.util.List;
import java.util.Set;
import java.util.regex.MatchResult;
import java.util.regex.Pattern;
import java.util.stream.Stream;

/** The rules of LANGUAGE.md that can be seen in the text of the class; run from the project's folder. */
public final class LanguageTest {
    private static final Path MAIN = Path.of("src/main/java");
    private static final Set<String> IMPORTS = Set.of("java.util.Arrays", "java.util.ArrayList",
            "java.util.List", "java.util.Iterator", "java.util.NoSuchElementException");
    /** Those of rule 6, and the two more that the document names. */
    private static final Set<String> THROWN = Set.of("IllegalStateException",
            "IllegalArgumentException", "IndexOutOfBoundsException", "ArithmeticException",
            "UnsupportedOperationException", "NoSuchElementException", "RuntimeException",
            "NegativeArraySizeException", "ArrayIndexOutOfBoundsException");
    /** No class of what the machine throws, nor one above it: these come by written throws alone. */
    private static final Set<String> CAUGHT = Set.of("IllegalStateException",
            "IllegalArgumentException", "UnsupportedOperationException", "NoSuchElementException");
    private static final List<String> RULED_OUT = List.of("package", "finally", "synchronized",
            "assert", "protected", "hashCode", "Thread", "Random", "Runtime", "sun", "java.io",
            "java.nio", "java.time");

    public static void main(String[] args) {
        Cases cases = new Cases();
        String text = codeOf(MAIN.resolve("ChannelRows.java"));
        cases.test("the class is one file", LanguageTest::isOneFile);
        cases.test("no library but what is listed", check ->
                eachIsIn(check, IMPORTS, text, "import\\s+(?:static\\s+)?([\\w.*]+)"));
        cases.test("no exceptions but those of the document", check ->
                eachIsIn(check, THROWN, text, "new\\s+(\\w*(?:Exception|Error))\\b"));
        cases.test("nothing is caught that the machine throws", check ->
                eachIsIn(check, CAUGHT, text, "(?:catch\\s*\\(\\s*|\\|\\s*)(\\w*(?:Exception|Error|Throwable))\\b"));
        cases.test("each throw makes its exception", check ->
                check.due("throws", count(text, "\\bthrow\\b"), count(text, "\\bthrow new\\b")));
        cases.test("no lambda, no method reference", check ->
                check.due("times", 0, count(text, "->|::")));
        cases.test("no exact arithmetic", check -> check.due("times", 0, count(text, "Exact\\(")));
        cases.test("parameters, classes and fields are few", LanguageTest::areFew);
        for (String word : RULED_OUT) {
            cases.test("nowhere " + word, check ->
                    check.due("times", 0, count(text, "\\b" + Pattern.quote(word) + "\\b")));
        }
        cases.close();
    }

    private static void areFew(Check check) {
        List<Class<?>> all = new ArrayList<>(List.of(ChannelRows.class.getDeclaredClasses()));
        all.add(ChannelRows.class);
        check.due("at most twelve classes", true, all.size() <= 12);
        for (Class<?> one : all) {
            long fields = Stream.of(one.getDeclaredFields())
                    .filter(field -> !Modifier.isStatic(field.getModifiers())).count();
            check.due("at most twenty fields: " + one, true, fields <= 20);
            Stream.<Executable>concat(Stream.of(one.getDeclaredMethods()),
                    Stream.of(one.getDeclaredConstructors())).forEach(method -> check.due(
                            "at most seven parameters: " + method, true,
                            method.getParameterCount() <= 7));
        }
    }

    private static void isOneFile(Check check) {
        try (var files = Files.walk(MAIN)) {
            check.due("files", 1L, files.filter(Files::isRegularFile).count());
        } catch (IOException e) {
            throw new UncheckedIOException(e);
        }
    }

    private static String codeOf(Path file) {
        try {
            return Files.readString(file).replaceAll("(?s)/\\*.*?\\*/", "")
                    .replaceAll("//[^\n]*", "").replaceAll("\"[^\"\n]*\"", "\"\"");
        } catch (IOException e) {
            throw new UncheckedIOException(e);
        }
    }

    private static void eachIsIn(Check check, Set<String> allowed, String text, String pattern) {
        check.due("there is a text", true, text.contains("class ChannelRows"));
        for (MatchResult one : Pattern.compile(pattern).matcher(text).results().toList()) {
            check.due(one.group(1) + " is allowed", true, allowed.contains(one.group(1)));
        }
    }

    private static int count(String text, String pattern) {
        return (int) Pattern.compile(pattern).matcher(text).results().count();
    }
}
