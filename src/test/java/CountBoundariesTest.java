import java.util.function.Supplier;

/** Promises 22 to 24, sentence by sentence, at the bounds that they name. */
public final class CountBoundariesTest {
    private static final int OUT_OF_RANGE = AmbiguityAnalyzer.OUT_OF_RANGE;
    private static final int OVERFLOW = AmbiguityAnalyzer.OVERFLOW;
    private static final long NAN = 0x7ff8000000000000L;
    private static final long ONE = 0x3ff0000000000000L;
    private static final Supplier<AmbiguityAnalyzer> BUSY = Busy::analyzer;

    /**
     * From state 0 one transition of eight leads back to it, from each of the others eight lead to the others:
     * 8^n - 1 paths of length n end in the others, which is the greatest long for n = 21.
     */
    static final String EIGHT_PATHS = ">0;1!;2!;3!;0a0;0a1;0a2;0a3;0b1;0b2;0b3;0c1"
        + ";1a1;1a2;1a3;1b1;1b2;1b3;1c1;1c2;2a1;2a2;2a3;2b1;2b2;2b3;2c2;2c3;3a1;3a2;3a3;3b1;3b2;3b3;3c3;3c1";
    /** Deterministic: 8^n - 1 words of length 2 n are accepted, which is the greatest long for n = 21. */
    private static final String EIGHT_WORDS = ">0;1!;0a2;0b3;0c4;1a2;1b2;1c3;2a1;2b1;2c1;3a1;3b1;4a0;4b1;4c1";

    public static void main(String[] args) {
        promise22();
        promise23();
        promise24();
        averages();
        Sentences.endOfPromises(22, 24);
    }

    /** 16^n paths of length n, a number that wraps to 0 from n = 16 on. */
    private static AmbiguityAnalyzer sixteen() {
        AmbiguityAnalyzer x = Due.analyzer(6, ">0;0!;1!;2!;3!;4!;5!");
        for (int i = 0; i < 96; i++) {
            Due.be("addTransition", x.addTransition(i / 16, i % 16 % 3, i % 16 / 3), 1);
        }
        return x;
    }

    private static Supplier<AmbiguityAnalyzer> oneMore(int states, String items) {
        return () -> {
            AmbiguityAnalyzer x = Busy.with(states, items).get();
            x.setFinal(0, true);
            return x;
        };
    }

    private static void promise22() {
        Sentences.promise(22, "Returns the number of accepting paths of all words of a length.", () -> {
            AmbiguityAnalyzer x = Due.analyzer(2, ">0;1!;0a1;0b1;0c1;1a1");
            Due.be("pathsOfLength(0)", x.pathsOfLength(0), 0);
            Due.be("pathsOfLength(1)", x.pathsOfLength(1), 3);
            Due.be("pathsOfLength(2)", x.pathsOfLength(2), 3);
            x.addTransition(0, 0, 0);
            Due.be("pathsOfLength(2)", x.pathsOfLength(2), 6);
        });
        Sentences.promise(22, "`length`: the length, 0 to 60", () -> {
            AmbiguityAnalyzer x = Due.analyzer(2, ">0;>1;0!;1!;0a0;1b1;0c1");
            for (int length = 0; length <= 60; length++) {
                Due.be("pathsOfLength(" + length + ")", x.pathsOfLength(length), 2 + length);
            }
        });
        Sentences.promise(22, "Returns the number of paths", () -> {
            Due.be("none of length 0", new AmbiguityAnalyzer().pathsOfLength(0), 0);
            Due.be("none of length 60", new AmbiguityAnalyzer().pathsOfLength(60), 0);
            Due.be("six empty ones", Due.analyzer(6, ">0;>1;>2;>3;>4;>5;0!;1!;2!;3!;4!;5!").pathsOfLength(0), 6);
            Due.be("no path of one letter", Due.analyzer(1, ">0;0!").pathsOfLength(1), 0);
        });
        Sentences.promise(22, "OUT_OF_RANGE if length is out of range", () -> {
            Refusal.outside("pathsOfLength(?)", OUT_OF_RANGE, BUSY, AmbiguityAnalyzer::pathsOfLength, 0, 60);
            Refusal.each("pathsOfLength(?), too many paths", OUT_OF_RANGE, oneMore(4, EIGHT_PATHS),
                AmbiguityAnalyzer::pathsOfLength, -1, 61);
        });
        Sentences.promise(22, "OVERFLOW if the number is greater than the greatest long.", () -> {
            AmbiguityAnalyzer x = Due.analyzer(4, EIGHT_PATHS);
            Due.be("8 to the 20th minus 1", x.pathsOfLength(20), (1L << 60) - 1);
            Due.be("the greatest long", x.pathsOfLength(21), Long.MAX_VALUE);
            Due.be("8 to the 20th", oneMore(4, EIGHT_PATHS).get().pathsOfLength(20), 1L << 60);
            for (int length = 22; length <= 60; length++) {
                Due.be("pathsOfLength(" + length + ")", x.pathsOfLength(length), OVERFLOW);
            }
            Refusal.each("pathsOfLength(?)", OVERFLOW, oneMore(4, EIGHT_PATHS), AmbiguityAnalyzer::pathsOfLength, 21, 22, 60);
            AmbiguityAnalyzer wrap = sixteen();
            Due.be("16 to the 15th", wrap.pathsOfLength(15), 1L << 60);
            for (int length = 16; length <= 60; length++) {
                Due.be("16 to the " + length, wrap.pathsOfLength(length), OVERFLOW);
            }
        });
    }

    private static void promise23() {
        Sentences.promise(23, "Returns the number of accepted words of a length.", () -> {
            AmbiguityAnalyzer x = Due.analyzer(3, ">0;>1;1!;2!;0a1;0a2;1a2;0b0");
            Due.be("the empty word is one", x.wordsOfLength(0), 1);
            Due.be("a and no other", x.wordsOfLength(1), 1);
            Due.be("aa and ba", x.wordsOfLength(2), 2);
        });
        Sentences.promise(23, "`length`: the length, 0 to 60", () -> {
            AmbiguityAnalyzer x = Due.analyzer(2, ">0;0!;1!;0a0;1b1;0c1");
            for (int length = 0; length <= 60; length++) {
                Due.be("wordsOfLength(" + length + ")", x.wordsOfLength(length), 1 + length);
            }
        });
        Sentences.promise(23, "Returns the number of words", () -> {
            Due.be("none of length 0", new AmbiguityAnalyzer().wordsOfLength(0), 0);
            Due.be("none of length 60", new AmbiguityAnalyzer().wordsOfLength(60), 0);
            Due.be("one empty word", Due.analyzer(6, ">0;>1;>2;>3;>4;>5;0!;1!;2!;3!;4!;5!").wordsOfLength(0), 1);
            Due.be("no word of one letter", Due.analyzer(1, ">0;0!").wordsOfLength(1), 0);
            Due.be("all words of one letter", Due.analyzer(1, ">0;0!;0a0;0b0;0c0").wordsOfLength(1), 3);
        });
        Sentences.promise(23, "OUT_OF_RANGE if length is out of range", () -> {
            Refusal.outside("wordsOfLength(?)", OUT_OF_RANGE, BUSY, AmbiguityAnalyzer::wordsOfLength, 0, 60);
            Refusal.each("wordsOfLength(?), too many words", OUT_OF_RANGE, oneMore(5, EIGHT_WORDS),
                AmbiguityAnalyzer::wordsOfLength, -1, 61);
        });
        Sentences.promise(23, "OVERFLOW if the number is greater than the greatest long.", () -> {
            AmbiguityAnalyzer x = Due.analyzer(5, EIGHT_WORDS);
            Due.be("8 to the 20th minus 1", x.wordsOfLength(40), (1L << 60) - 1);
            Due.be("the greatest long", x.wordsOfLength(42), Long.MAX_VALUE);
            Due.be("8 to the 20th", oneMore(5, EIGHT_WORDS).get().wordsOfLength(40), 1L << 60);
            for (int length = 44; length <= 60; length += 2) {
                Due.be("wordsOfLength(" + length + ")", x.wordsOfLength(length), OVERFLOW);
            }
            Due.be("no word of odd length", x.wordsOfLength(59), 0);
            Refusal.each("wordsOfLength(?)", OVERFLOW, oneMore(5, EIGHT_WORDS), AmbiguityAnalyzer::wordsOfLength, 42, 44, 60);
            AmbiguityAnalyzer all = Due.analyzer(1, ">0;0!;0a0;0b0;0c0");
            Due.be("3 to the 39th", all.wordsOfLength(39), 4052555153018976267L);
            for (int length = 40; length <= 60; length++) {
                Due.be("3 to the " + length, all.wordsOfLength(length), OVERFLOW);
            }
        });
    }

    private static void promise24() {
        Sentences.promise(24, "`length`: the length, 0 to 60", () -> {
            AmbiguityAnalyzer x = Due.analyzer(2, ">0;>1;0!;1!;0a0;1b1;0c1");
            for (int length = 0; length <= 60; length++) {
                double due = length == 0 ? 2.0 : (2.0 + length) / (2.0 + length);
                Due.be("averageBits(" + length + ")", x.averageBits(length), Double.doubleToLongBits(due));
            }
        });
        Sentences.promise(24, "OUT_OF_RANGE if length is out of range", () -> {
            Refusal.outside("averageBits(?)", OUT_OF_RANGE, BUSY, AmbiguityAnalyzer::averageBits, 0, 60);
            Refusal.each("averageBits(?), too many paths", OUT_OF_RANGE, oneMore(4, EIGHT_PATHS),
                AmbiguityAnalyzer::averageBits, -1, 61);
        });
        Sentences.promise(24, "OVERFLOW if one of the two numbers is greater than the greatest long.", () -> {
            AmbiguityAnalyzer x = Due.analyzer(4, EIGHT_PATHS);
            long words = x.wordsOfLength(21);
            Due.be("the words are less", words > 0 && words < Long.MAX_VALUE);
            Due.be("the greatest long of paths", x.averageBits(21), bits(Long.MAX_VALUE, words));
            Due.be("too many paths", x.averageBits(22), OVERFLOW);
            Refusal.each("averageBits(?), too many paths", OVERFLOW, oneMore(4, EIGHT_PATHS),
                AmbiguityAnalyzer::averageBits, 21, 22, 60);
            Due.be("the greatest long of both", Due.analyzer(5, EIGHT_WORDS).averageBits(42), ONE);
            Refusal.each("averageBits(?), too many words", OVERFLOW, oneMore(5, EIGHT_WORDS),
                AmbiguityAnalyzer::averageBits, 42, 44, 60);
        });
    }

    private static long bits(long paths, long words) {
        return Double.doubleToLongBits((double) paths / (double) words);
    }

    private static void averages() {
        Sentences.promise(24, "Returns the average ambiguity of the accepted words of a length.", () -> {
            AmbiguityAnalyzer x = Due.analyzer(3, ">0;1!;2!;0a1;0a2;0b1;0c0");
            Due.be("a has 2, b has 1, c has none", x.averageBits(1), Double.doubleToLongBits(1.5));
            Due.be("1 exactly", Due.analyzer(2, ">0;1!;0a1;0b1").averageBits(1), ONE);
            Due.be("6 exactly", Due.analyzer(6, ">0;>1;>2;>3;>4;>5;0!;1!;2!;3!;4!;5!").averageBits(0),
                Double.doubleToLongBits(6.0));
        });
        Sentences.promise(24, "Both numbers are converted to double and divided in double arithmetic.", () -> {
            AmbiguityAnalyzer x = Due.analyzer(4, EIGHT_PATHS);
            for (int length = 1; length <= 21; length++) {
                Due.be("averageBits(" + length + ")", x.averageBits(length), bits(x.pathsOfLength(length), x.wordsOfLength(length)));
            }
            AmbiguityAnalyzer thirds = Due.analyzer(3, ">0;1!;2!;0a1;0a2;0b1;0c1");
            Due.be("4 / 3", thirds.averageBits(1), 0x3ff5555555555555L);
            thirds.addTransition(0, 1, 2);
            Due.be("5 / 3", thirds.averageBits(1), 0x3ffaaaaaaaaaaaabL);
            // These numbers are beyond 2^53, so that converting them rounds.
            AmbiguityAnalyzer all = Due.analyzer(2, ">0;0!;0a0;0b0;0c0;0a1;>1;1b1");
            Due.be("3 to the 39th", all.averageBits(39), ONE);
            all.setFinal(1, true);
            Due.be("half as many more", all.averageBits(39), bits(all.pathsOfLength(39), 4052555153018976267L));
        });
        Sentences.promise(24, "Returns Double.doubleToLongBits of the number of accepting paths divided by the number of "
            + "accepted words of the length, and of Double.NaN if there is no such word", () -> {
                Due.be("no word at all", new AmbiguityAnalyzer().averageBits(0), NAN);
                Due.be("no word of length 60", Due.analyzer(1, ">0;0!").averageBits(60), NAN);
                Due.be("one word of length 0", Due.analyzer(1, ">0;0!").averageBits(0), ONE);
                Due.be("one word of length 60", Due.analyzer(1, ">0;0!;0c0").averageBits(60), ONE);
                AmbiguityAnalyzer loop = Due.analyzer(2, ">0;0!;0a1;1a0");
                Due.be("no word of length 59", loop.averageBits(59), NAN);
                Due.be("one word of length 60", loop.averageBits(60), ONE);
                AmbiguityAnalyzer powers = Due.analyzer(2, ">0;0!;1!;0a0;0a1;1a0;1a1");
                for (int length = 0; length <= 60; length++) {
                    Due.be("2 to the " + length, powers.averageBits(length), Double.doubleToLongBits((double) (1L << length)));
                }
                Refusal.is("averageBits(59), which is no error", NAN, Busy.with(1, ">0;0!"), x -> x.averageBits(59));
            });
    }
}
