import java.util.function.Supplier;

/** Analyzers in which no part of the state is as it is at first, so that a change of any part can be seen. */
final class Busy {
    private static final String TEXT = ">0;1!;2a1";

    private Busy() {
    }

    static AmbiguityAnalyzer analyzer() {
        return withText(TEXT);
    }

    /** Shelf 0 is empty, 1 holds a word, 2 a row of counts and 3 the empty word. */
    private static AmbiguityAnalyzer withoutText() {
        AmbiguityAnalyzer x = Due.analyzer(5, ">3;1!;3a1;3b2;2c1;4a4");
        weights(x, 7, 8, 9);
        Due.be("save()", x.save(), 5);
        Due.word(x, "abc");
        Due.be("keepWord(1)", x.keepWord(1), 3);
        Due.be("build(1)", x.build(1), 3);
        Due.be("reset(6)", x.reset(6), 5);
        Due.fill(x, ">0;>5;5!;2!;0a0;0b1;1c2;5a5;4b3");
        weights(x, 5, 100, 0);
        Due.be("keepCounts(2, 3)", x.keepCounts(2, 3), 4);
        Due.be("clearWord()", x.clearWord(), 3);
        Due.be("keepWord(3)", x.keepWord(3), 0);
        Due.word(x, "cab");
        return x;
    }

    private static void weights(AmbiguityAnalyzer x, int a, int b, int c) {
        x.setWeight(0, a);
        x.setWeight(1, b);
        x.setWeight(2, c);
    }

    static AmbiguityAnalyzer withText(String text) {
        AmbiguityAnalyzer x = withoutText();
        for (int i = 0; i < text.length(); i++) {
            Due.be("append '" + text.charAt(i) + "'", x.append(text.charAt(i)), i + 1);
        }
        return x;
    }

    static AmbiguityAnalyzer withWord(String word) {
        AmbiguityAnalyzer x = analyzer();
        Due.word(x, word);
        return x;
    }

    /** Makes analyzers with this automaton and the rest of the state as above. */
    static Supplier<AmbiguityAnalyzer> with(int states, String items) {
        return () -> {
            AmbiguityAnalyzer x = analyzer();
            x.reset(states);
            Due.fill(x, items);
            return x;
        };
    }
}
