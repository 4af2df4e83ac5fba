import java.io.IOException;
import java.lang.reflect.InvocationTargetException;
import java.lang.reflect.Method;
import java.nio.charset.StandardCharsets;
import java.nio.file.Files;
import java.nio.file.Path;
import java.util.Arrays;
import java.util.List;
import java.util.regex.Matcher;
import java.util.regex.Pattern;

/** README.md: that it says of each call what the document says, and that its example answers as it tells. */
public final class ReadmeTests {
    private static final Pattern EXAMPLE =
            Pattern.compile("(?m)^smithy\\.(\\w+)\\(([^)]*)\\); +// (throws )?(-?[\\w.]*\\w)(.*)$");

    private final Checks checks = new Checks("ReadmeTests");
    private final String page;

    private ReadmeTests() throws IOException {
        page = Files.readString(Path.of("README.md"), StandardCharsets.UTF_8);
    }

    public static void main(String[] args) throws IOException {
        new ReadmeTests().run();
    }

    private void run() throws IOException {
        Document document = new Document();
        for (Promise promise : Promise.all(document)) {
            call(promise);
        }
        terms(document);
        example();
        ownTests();
        checks.end();
    }

    /** The page's line that begins with these words, without the marks of code; nothing if there is none. */
    private String line(String begin) {
        for (String line : page.split("\n")) {
            if (line.startsWith(begin)) {
                return line.replace("`", "");
            }
        }
        return "";
    }

    private void call(Promise promise) {
        String row = line("| `" + promise.declaration() + "` |");
        String want = "| " + promise.declaration() + " | " + promise.purpose() + " | " + promise.returns() + " | "
                + String.join("; ", promise.refusals()) + " |";
        checks.equal("the row of " + promise.name(), row, want.replace(" |  |", " | |"));
        for (String argument : promise.arguments()) {
            String[] words = argument.split(": ", 2);
            checks.holds("the row of " + promise.name() + ", " + argument,
                    argumentRow(promise.name(), words[0]).endsWith("| " + words[1] + " |"));
        }
    }

    private String argumentRow(String call, String argument) {
        for (String line : page.split("\n")) {
            if (line.matches("\\| `" + argument + "` \\| (`\\w+`, )*`" + call + "`(, `\\w+`)* \\|.*")) {
                return line;
            }
        }
        return "";
    }

    /** Each sentence of the terms, and of what the class is, stands in the page, but for its line ends and marks. */
    private void terms(Document document) {
        String words = page.replace("**", "").replace("`", "").replaceAll("\\s+", " ");
        for (String sentence : document.sentences("Terms")) {
            String told = sentence.replace("The constants: ", "");
            checks.holds("the page says: " + told, words.contains(told));
        }
        List<String> whole = document.sentences("What it is");
        for (String sentence : whole.subList(1, whole.size())) {
            checks.holds("the page says: " + sentence, words.contains(sentence));
        }
        checks.holds("the page says how it is made",
                words.contains("BarForger(): " + document.sentences("Promise 1").get(0)));
    }

    /** Each call of the example, in its order, answers what the comment behind it begins with. */
    private void example() {
        BarForger smithy = new BarForger();
        Matcher calls = EXAMPLE.matcher(page);
        int count = 0;
        while (calls.find()) {
            String want = calls.group(4);
            checks.equal(calls.group(), answer(smithy, calls.group(1), calls.group(2)), want);
            count++;
        }
        checks.due("calls of the example", count, page.split("\nsmithy\\.").length - 1);
        checks.holds("the example has calls", count > 9);
    }

    /** A number, or a letter between single quotes. */
    private static int number(String word) {
        return word.startsWith("'") ? word.charAt(1) : Integer.parseInt(word);
    }

    private static String answer(BarForger smithy, String name, String arguments) {
        String[] words = arguments.isEmpty() ? new String[0] : arguments.split(", ");
        Object[] numbers = new Object[words.length];
        for (int index = 0; index < words.length; index++) {
            numbers[index] = number(words[index]);
        }
        Class<?>[] types = new Class<?>[words.length];
        Arrays.fill(types, int.class);
        try {
            Method method = BarForger.class.getMethod(name, types);
            return String.valueOf(method.invoke(smithy, numbers));
        } catch (InvocationTargetException thrown) {
            return thrown.getCause().getClass().getSimpleName();
        } catch (ReflectiveOperationException missing) {
            return missing.toString();
        }
    }

    /** The page names each test that .ci/run runs. */
    private void ownTests() throws IOException {
        try (var files = Files.list(Path.of("src/test/java"))) {
            for (Path file : (Iterable<Path>) files::iterator) {
                String name = file.getFileName().toString().replace(".java", "");
                if (name.endsWith("Tests")) {
                    checks.holds("the page names " + name, page.contains("`" + name + "`"));
                }
            }
        }
    }
}
