import java.io.IOException;
import java.lang.reflect.Method;
import java.nio.file.Files;
import java.nio.file.Path;
import java.util.List;
import java.util.regex.Matcher;
import java.util.regex.Pattern;
import java.util.stream.Collectors;
import java.util.stream.Stream;

/** README.md: its run of calls answers as it says there, and it names what there is. Runs in the project's root. */
public final class ReadmeTest {
    private static final String CLASS_FILE = "src/main/java/AmbiguityAnalyzer.java";
    private static final String NEW_OBJECT = "AmbiguityAnalyzer x = new AmbiguityAnalyzer();";
    private static final Pattern CALL = Pattern.compile("x\\.(\\w+)\\(([^()]*)\\); +// (-?\\d+)(:.*)?");

    public static void main(String[] args) throws IOException, ReflectiveOperationException {
        String readme = Files.readString(Path.of("README.md"));
        run(readme);
        namesWhatThereIs(readme);
        Due.end();
    }

    private static void run(String readme) throws ReflectiveOperationException {
        Matcher block = Pattern.compile("(?s)```java\n(.*?)```").matcher(readme);
        Due.be("there is a run of calls", block.find());
        String[] lines = block.group(1).split("\n");
        Due.same("the first line of the run", lines[0], NEW_OBJECT);
        AmbiguityAnalyzer x = new AmbiguityAnalyzer();
        for (int i = 1; i < lines.length; i++) {
            Matcher call = CALL.matcher(lines[i]);
            boolean matches = call.matches();
            Due.be("a call and its answer: " + lines[i], matches);
            if (matches) {
                Due.be("README: " + lines[i], answer(x, call.group(1), call.group(2)), Long.parseLong(call.group(3)));
            }
        }
        Due.be("the run has some calls", lines.length > 10);
    }

    private static long answer(AmbiguityAnalyzer x, String name, String arguments) throws ReflectiveOperationException {
        String[] texts = arguments.isEmpty() ? new String[0] : arguments.split(", ");
        for (Method method : AmbiguityAnalyzer.class.getMethods()) {
            if (method.getName().equals(name) && method.getParameterCount() == texts.length) {
                Object[] values = new Object[texts.length];
                for (int i = 0; i < texts.length; i++) {
                    values[i] = value(texts[i]);
                }
                return ((Number) method.invoke(x, values)).longValue();
            }
        }
        throw new NoSuchMethodException(name + " with " + texts.length + " arguments");
    }

    private static Object value(String text) {
        if (text.equals("true") || text.equals("false")) {
            return text.equals("true");
        }
        return text.startsWith("'") ? text.charAt(1) : Integer.parseInt(text);
    }

    private static void namesWhatThereIs(String readme) throws IOException {
        for (String name : List.of(CLASS_FILE, ".ci/run", "../shared/DOC.md", "../shared/LANGUAGE.md", "../shared/tests")) {
            Due.be("README.md names " + name, readme.contains("`" + name + "`"));
            Due.be(name + " is there", Files.exists(Path.of(name)));
        }
        List<String> tests;
        try (Stream<Path> files = Files.list(Path.of("src/test/java"))) {
            tests = files.map(file -> file.getFileName().toString().replace(".java", "")).collect(Collectors.toList());
        }
        for (String test : tests) {
            Due.be("README.md names " + test, readme.contains("`" + test + "`"));
        }
    }
}
