import java.io.IOException;
import java.io.UncheckedIOException;
import java.lang.reflect.Method;
import java.lang.reflect.Modifier;
import java.nio.file.Files;
import java.nio.file.Path;
import java.util.ArrayList;
import java.util.List;
import java.util.regex.Matcher;
import java.util.regex.Pattern;

/** README.md tells how the class is used: its example answers as it says; run from the project's folder. */
public final class ReadmeTest {
    private static final Pattern TOLD = Pattern.compile("radio\\.(\\w+)\\(.*\\);\\s+// (true|-?\\d+): .*");

    public static void main(String[] args) {
        Cases cases = new Cases();
        String text = readme();
        cases.test("the example answers as it says", check ->
                check.due("answers", told(text), example()));
        cases.test("every call of the face is told", check -> everyCall(check, text));
        cases.test("it tells how the tests are run", check ->
                check.due(".ci/run", true, text.contains("`.ci/run`")));
        cases.close();
    }

    /** The calls of the README's example that have an answer behind them, and these answers. */
    private static List<String> told(String text) {
        List<String> answers = new ArrayList<>();
        for (String line : text.split("\n")) {
            Matcher found = TOLD.matcher(line);
            if (found.matches()) {
                answers.add(found.group(1) + " " + found.group(2));
            }
        }
        return answers;
    }

    private static List<String> example() {
        ChannelRows radio = new ChannelRows();
        radio.day(20);
        int a = radio.unit(0, 0, 50, 0);
        int b = radio.unit(30, 40, 10, 1);
        List<String> answers = new ArrayList<>();
        answers.add("patch " + radio.patch(0, 1));
        int m = radio.speak(a, 2, 3, 1);
        answers.add("hears " + radio.hears(b, 3));
        answers.add("ended " + radio.ended(m));
        answers.add("relay " + radio.relay(b, m, 10, 5));
        answers.add("used " + radio.used(0, 0, 20));
        answers.add("lose " + radio.lose(3));
        answers.add("unheard " + radio.unheard(m, 0));
        return answers;
    }

    private static void everyCall(Check check, String text) {
        for (Method method : ChannelRows.class.getDeclaredMethods()) {
            if (Modifier.isPublic(method.getModifiers())) {
                check.due(method.getName(), true, text.contains("| `" + method.getName() + "("));
                for (Class<?> thrown : method.getExceptionTypes()) {
                    check.due(thrown + " of " + method.getName(), true,
                            isToldOf(text, thrown.getSimpleName(), method.getName()));
                }
            }
        }
    }

    private static boolean isToldOf(String text, String exception, String call) {
        for (String line : text.split("\n")) {
            if (line.startsWith("| `" + exception + "` |") && line.contains("`" + call + "`")) {
                return true;
            }
        }
        return false;
    }

    private static String readme() {
        try {
            return Files.readString(Path.of("README.md"));
        } catch (IOException e) {
            throw new UncheckedIOException(e);
        }
    }
}
