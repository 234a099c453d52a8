import java.io.IOException;
import java.nio.file.Files;
import java.nio.file.Path;
import java.util.List;
import java.util.regex.Matcher;
import java.util.regex.Pattern;

/** The rules of LANGUAGE.md that can be read off the text of the program. Runs in the project's root. */
public final class LanguageTest {
    private static final Path SOURCE = Path.of("src/main/java/AmbiguityAnalyzer.java");
    private static final List<String> FORBIDDEN = List.of(
        "\\bimport\\b", "\\bpackage\\b", "\\bprotected\\b", "\\btry\\b", "\\bcatch\\b", "\\bfinally\\b", "\\bthrow\\b",
        "\\bthrows\\b", "\\bsynchronized\\b", "\\bassert\\b", "\\bvar\\b", "\\bvolatile\\b", "\\binstanceof\\b", "->", "::",
        "static\\s*\\{", "Exact\\b", "\\bDouble\\b", "\\bFloat\\b", "\\bThread\\b", "\\bObject\\b", "\\bequals\\(",
        "\\bhashCode\\b", "\\btoString\\b", "\\brandom\\(", "\\bnanoTime\\b", "\\bcurrentTimeMillis\\b", "\\bString\\b",
        "while\\s*\\(true\\)", "for\\s*\\(;;\\)");
    private static final Pattern LIBRARY = Pattern.compile("\\b(Math|Integer|Long|System|Arrays)\\.(\\w+)");
    private static final List<String> ALLOWED = List.of("Math.max", "Math.min", "Integer.bitCount");

    public static void main(String[] args) throws IOException {
        String text = Files.readString(SOURCE);
        for (int i = 0; i < text.length(); i++) {
            Due.be("sign " + i + " is plain", text.charAt(i) == '\n' || text.charAt(i) >= 32 && text.charAt(i) < 127);
        }
        String code = text.replaceAll("(?s)/\\*.*?\\*/", "").replaceAll("//[^\n]*", "");
        for (String forbidden : FORBIDDEN) {
            Matcher matcher = Pattern.compile(forbidden).matcher(code);
            Due.be("the program has no " + forbidden, !matcher.find());
        }
        Matcher calls = LIBRARY.matcher(code);
        while (calls.find()) {
            Due.be(calls.group() + " is allowed", ALLOWED.contains(calls.group()));
        }
        methodsAreShort(text);
        Due.end();
    }

    private static void methodsAreShort(String text) {
        String[] lines = text.split("\n");
        for (int i = 0; i < lines.length; i++) {
            Matcher head = Pattern.compile("^( {4}| {8})\\w[^=;]*\\) \\{$").matcher(lines[i]);
            if (head.find()) {
                int end = i;
                while (end < lines.length && !lines[end].equals(head.group(1) + "}")) {
                    end++;
                }
                Due.be("a method of at most sixty lines: " + lines[i].trim(), end - i < 60);
            }
        }
    }
}
