import java.io.IOException;
import java.io.UncheckedIOException;
import java.nio.file.Files;
import java.nio.file.Path;
import java.util.LinkedHashMap;
import java.util.Map;

/**
 * Tests of single sentences of the document. Each one says the promise that it belongs to and the sentence,
 * word by word as it stands there, so that a test can't be kept for a sentence that has changed; at the end
 * the sentences are told that no test holds.
 */
final class Sentences {
    private static final Path DOCUMENT = Path.of("../shared/DOC.md");
    private static final Map<String, Section> SECTIONS = read();

    private Sentences() {
    }

    private static final class Section {
        final String text;
        final boolean[] held;

        Section(String text) {
            this.text = text;
            held = new boolean[text.length()];
        }

        boolean hold(String sentence) {
            int at = text.indexOf(sentence);
            boolean there = at >= 0;
            for (; at >= 0; at = text.indexOf(sentence, at + 1)) {
                java.util.Arrays.fill(held, at, at + sentence.length(), true);
            }
            return there;
        }

        /** What stands in the section and in no sentence that is held. */
        String rest() {
            StringBuilder rest = new StringBuilder();
            for (int i = 0; i < text.length(); i++) {
                rest.append(held[i] ? '|' : text.charAt(i));
            }
            return rest.toString().replaceAll("(?<=[|.;:] ?)[-.;: ]+(?=\\||$)", "|").replaceAll("\\|+", "|");
        }
    }

    private static Map<String, Section> read() {
        Map<String, Section> sections = new LinkedHashMap<>();
        try {
            for (String part : Files.readString(DOCUMENT).split("(?m)^## ")) {
                String title = part.substring(0, part.indexOf('\n'));
                String text = part.substring(title.length()).replaceAll("\\s+", " ").trim();
                // The signature is in FaceTest, the examples are in ExamplesTest.
                text = text.replaceAll("^`[^`]*` ", "").replaceAll("Examples: .*The constants:", "");
                sections.put(title.replaceAll("^(Promise \\d+):.*", "$1"), new Section(text));
            }
        } catch (IOException e) {
            throw new UncheckedIOException(e);
        }
        return sections;
    }

    /** A test of a sentence that stands with a promise. */
    static void promise(int number, String sentence, Runnable test) {
        hold("Promise " + number, "promise " + number, sentence, test);
    }

    /** A test of a sentence of the description, and the promises that rest on it. */
    static void description(String promises, String sentence, Runnable test) {
        hold("Description", "description, for " + promises, sentence, test);
    }

    /** A test of a sentence of another section. */
    static void section(String title, String sentence, Runnable test) {
        hold(title, title, sentence, test);
    }

    /** A sentence of the description that names nothing that a call could show. */
    static void saysNothingToTest(String sentence) {
        Due.be("the description says: " + sentence, SECTIONS.get("Description").hold(sentence));
    }

    private static void hold(String title, String where, String sentence, Runnable test) {
        Due.about(where + ": \"" + sentence + "\"");
        Section section = SECTIONS.get(title);
        Due.be("this stands there", section != null && section.hold(sentence));
        int before = Due.checkedSoFar();
        test.run();
        Due.be("something is tested", Due.checkedSoFar() > before);
        Due.about("");
    }

    private static void nothingLeft(String title) {
        String rest = SECTIONS.get(title).rest();
        Due.be(title + ": every sentence has a test, but for those in " + rest, !rest.matches(".*[A-Za-z0-9].*"));
    }

    /** Ends a test that holds all sentences of these promises. */
    static void endOfPromises(int first, int last) {
        for (int number = first; number <= last; number++) {
            nothingLeft("Promise " + number);
        }
        Due.end();
    }

    /** Ends a test that holds all sentences of the description. */
    static void endOfDescription() {
        nothingLeft("Description");
        Due.end();
    }
}
