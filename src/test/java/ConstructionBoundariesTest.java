import java.util.ArrayList;
import java.util.List;
import java.util.function.Supplier;

/** Promises 36 to 41, sentence by sentence, at the bounds that they name. */
public final class ConstructionBoundariesTest {
    private static final int NO_SUCH_ELEMENT = AmbiguityAnalyzer.NO_SUCH_ELEMENT;
    private static final int NONE = AmbiguityAnalyzer.NONE;
    private static final int TOO_LARGE = AmbiguityAnalyzer.TOO_LARGE;
    private static final Supplier<AmbiguityAnalyzer> BUSY = Busy::analyzer;

    /** Construction 1 has 64 states; the last one is final, a target, and has targets of its own. */
    private static final String RESULT_64 = ">0;>1;>2;>3;0!;3!;0a0;0a5;0c0;0c1;0c5;1b4;1c2;2b2;2b4;2c5;3b3;3c5;4a0;4a2;4b1;4c4;"
        + "5a1;5b2";
    /** Construction 1 would have 65 states. */
    private static final String RESULT_65 = ">0;>3;0a3;0a5;0b1;0b3;1a0;1a1;1c0;1c5;2a0;2a5;2c3;3a0;3a1;3b4;4a1;4b2;4b4;4c1;4c2;"
        + "4c3;5b4";
    /** Construction 0 has all 63 nonempty sets of states. */
    private static final String ALL_SETS = ">0;>1;>2;>3;>4;>5;0!;0a1;1a2;2a3;3a4;4a5;5a0;0b1;1b0;2b2;3b3;4b4;5b5;0c0;1c0;2c2;3c3;"
        + "4c4;5c5";
    private static final String TWO_PATHS = ">0;3!;0a1;0a2;1b3;2b3";

    public static void main(String[] args) {
        promise36();
        sizes();
        promise37();
        promises38And39();
        promise40();
        promise41();
        Sentences.endOfPromises(36, 41);
    }

    private static AmbiguityAnalyzer built(int construction, int result, int states, String items) {
        AmbiguityAnalyzer x = Due.analyzer(states, items);
        Due.be("build(" + construction + ") of " + items, x.build(construction), result);
        return x;
    }

    private static void promise36() {
        Sentences.promise(36, "Makes a construction and keeps its result.", () -> {
            AmbiguityAnalyzer x = built(0, 3, 4, TWO_PATHS);
            Due.be("{0} a", x.resultSuccessors(0, 0), 2);
            Due.be("{1, 2} b", x.resultSuccessors(1, 1), 4);
            Due.be("resultFinals()", x.resultFinals(), 4);
            AmbiguityAnalyzer y = built(1, 5, 4, TWO_PATHS);
            Due.be("(0, {}) a", y.resultSuccessors(0, 0), 6);
            Due.be("(1, {}) b", y.resultSuccessors(1, 1), 8);
            Due.be("(2, {1}) b", y.resultSuccessors(2, 1), 16);
            Due.be("(3, {}) is final, (3, {3}) is not", y.resultFinals(), 8);
        });
        Sentences.promise(36, "Makes a construction and keeps its result.", ConstructionBoundariesTest::oneAfterAnother);
        Sentences.promise(36, "The result does not change when the automaton changes later.", () -> {
            AmbiguityAnalyzer x = built(1, 5, 4, TWO_PATHS);
            x.addTransition(0, 2, 0);
            x.removeTransition(0, 0, 1);
            x.setInitial(3, true);
            x.setInitial(0, false);
            x.setFinal(3, false);
            x.randomize(4, 20);
            x.trim();
            x.reset(6);
            Due.be("resultStateCount()", x.resultStateCount(), 5);
            Due.be("resultInitials()", x.resultInitials(), 1);
            Due.be("resultFinals()", x.resultFinals(), 8);
            Due.be("resultSuccessors(0, 0)", x.resultSuccessors(0, 0), 6);
            Due.be("resultSuccessors(0, 2)", x.resultSuccessors(0, 2), 0);
            Due.word(x, "ab");
            Due.be("resultAmbiguity()", x.resultAmbiguity(), 1);
        });
        Sentences.promise(36, "There is no result at first.", () -> {
            AmbiguityAnalyzer x = new AmbiguityAnalyzer();
            Due.be("resultStateCount()", x.resultStateCount(), NONE);
            Due.be("resultAmbiguity()", x.resultAmbiguity(), NONE);
            x.build(2);
            Due.be("resultStateCount() behind a refused call", x.resultStateCount(), NONE);
            x.build(0);
            Due.be("resultStateCount() behind build(0)", x.resultStateCount(), 0);
        });
        Sentences.promise(36, "`construction`: the construction, 0 or 1", () -> {
            built(0, 3, 4, TWO_PATHS);
            built(1, 5, 4, TWO_PATHS);
        });
    }

    /** Each result is the one that a new object makes, whatever stood in its place before. */
    private static void oneAfterAnother() {
        String[] automata = {RESULT_64, TWO_PATHS, ALL_SETS, "0!", ">0;0!;1!;0c1", TWO_PATHS, RESULT_65, ">5;4!;5b4", ""};
        for (int construction = 0; construction < 2; construction++) {
            AmbiguityAnalyzer x = new AmbiguityAnalyzer();
            for (String items : automata) {
                x.reset(6);
                Due.fill(x, items);
                AmbiguityAnalyzer y = Due.analyzer(6, items);
                int states = y.build(construction);
                Due.be("build(" + construction + ") of " + items, x.build(construction), states);
                if (states >= 0) {
                    sameResult("behind build(" + construction + ") of " + items, x, y, Math.min(6, states));
                }
            }
        }
    }

    private static void sameResult(String where, AmbiguityAnalyzer x, AmbiguityAnalyzer y, int states) {
        Due.be("resultStateCount() " + where, x.resultStateCount(), y.resultStateCount());
        Due.be("resultInitials() " + where, x.resultInitials(), y.resultInitials());
        Due.be("resultFinals() " + where, x.resultFinals(), y.resultFinals());
        for (int i = 0; i < 3 * states; i++) {
            Due.be("resultSuccessors " + where, x.resultSuccessors(i / 3, i % 3), y.resultSuccessors(i / 3, i % 3));
        }
    }

    private static void sizes() {
        Sentences.promise(36, "Returns the number of states of the result", () -> {
            built(0, 0, 1, "0!;0a0");
            built(1, 0, 1, "0!;0a0");
            built(0, 1, 1, ">0");
            built(1, 1, 1, ">0");
            built(0, 1, 6, ">0;>1;>2;>3;>4;>5");
            built(1, 6, 6, ">0;>1;>2;>3;>4;>5");
            built(0, 63, 6, ALL_SETS);
            built(1, 64, 6, RESULT_64);
        });
        Sentences.promise(36, "NO_SUCH_ELEMENT if there is no such construction", () -> {
            Refusal.outside("build(?)", NO_SUCH_ELEMENT, BUSY, AmbiguityAnalyzer::build, 0, 1);
            Refusal.outside("build(?)", NO_SUCH_ELEMENT, Busy.with(6, RESULT_65), AmbiguityAnalyzer::build, 0, 1);
        });
        Sentences.promise(36, "TOO_LARGE if the result would have more than 64 states", () -> {
            built(1, 64, 6, RESULT_64);
            Refusal.is("build(1) of 65", TOO_LARGE, Busy.with(6, RESULT_65), x -> x.build(1));
            Refusal.is("build(1) of many more", TOO_LARGE, Busy.with(6, ALL_SETS + ";0a2;3b5;4a1"), x -> x.build(1));
            Due.be("build(0) of the same", Due.analyzer(6, RESULT_65).build(0) > 0);
            AmbiguityAnalyzer x = built(1, TOO_LARGE, 6, RESULT_65);
            Due.be("still no result", x.resultStateCount(), NONE);
        });
        Sentences.promise(36, "the previous result is kept then.", () -> {
            AmbiguityAnalyzer x = built(1, 5, 4, TWO_PATHS);
            for (int i = 0; i < 3; i++) {
                x.reset(6);
                Due.fill(x, RESULT_65);
                Due.be("build(1)", x.build(1), TOO_LARGE);
                Due.be("resultStateCount()", x.resultStateCount(), 5);
                Due.be("resultInitials()", x.resultInitials(), 1);
                Due.be("resultFinals()", x.resultFinals(), 8);
                Due.be("resultSuccessors(0, 0)", x.resultSuccessors(0, 0), 6);
                Due.be("resultSuccessors(2, 1)", x.resultSuccessors(2, 1), 16);
            }
        });
    }

    private static void promise37() {
        Sentences.promise(37, "Returns the number of states of the result.", () -> {
            AmbiguityAnalyzer x = built(1, 5, 4, TWO_PATHS);
            Due.be("resultStateCount()", x.resultStateCount(), 5);
            x.build(0);
            Due.be("resultStateCount()", x.resultStateCount(), 3);
        });
        Sentences.promise(37, "Returns the number of states", () -> {
            Due.be("none", built(0, 0, 1, "").resultStateCount(), 0);
            Due.be("64", built(1, 64, 6, RESULT_64).resultStateCount(), 64);
        });
        Sentences.promise(37, "NONE if there is no result.", () -> {
            Supplier<AmbiguityAnalyzer> made = () -> Due.analyzer(4, TWO_PATHS);
            Refusal.is("resultStateCount()", NONE, made, AmbiguityAnalyzer::resultStateCount);
            Due.be("without states there is one", built(1, 0, 2, "0!;0a1").resultStateCount(), 0);
        });
    }

    private static void promises38And39() {
        Sentences.promise(38, "Returns the initial states of the result.", () -> {
            Due.be("of subsets", built(0, 1, 2, ">0;>1").resultInitials(), 1);
            Due.be("of least paths", built(1, 2, 2, ">0;>1").resultInitials(), 3);
        });
        Sentences.promise(38, "Returns the set of states as a long", () -> {
            Due.be("none", built(0, 0, 1, "").resultInitials(), 0);
            Due.be("six", built(1, 6, 6, ">0;>1;>2;>3;>4;>5").resultInitials(), 63);
            Due.be("four of 64", built(1, 64, 6, RESULT_64).resultInitials(), 15);
        });
        Sentences.promise(38, "0 if there is no result.", () ->
            Refusal.is("resultInitials(), no error", 0, () -> Due.analyzer(4, TWO_PATHS), AmbiguityAnalyzer::resultInitials));
        Sentences.promise(39, "Returns the final states of the result.", () -> {
            Due.be("of subsets", built(0, 3, 4, TWO_PATHS).resultFinals(), 4);
            Due.be("of least paths", built(1, 5, 4, TWO_PATHS).resultFinals(), 8);
        });
        Sentences.promise(39, "Returns the set of states as a long", () -> {
            Due.be("none", built(0, 1, 1, ">0").resultFinals(), 0);
            Due.be("all", built(0, 2, 2, ">0;0!;1!;0a1").resultFinals(), 3);
            Due.be("with the 64th", built(1, 64, 6, RESULT_64).resultFinals() < 0);
            // All sets with state 0 are final.
            Due.be("half of the sets", Long.bitCount(built(0, 63, 6, ALL_SETS).resultFinals()), 32);
        });
        Sentences.promise(39, "0 if there is no result.", () ->
            Refusal.is("resultFinals(), no error", 0, () -> Due.analyzer(1, ">0;0!"), AmbiguityAnalyzer::resultFinals));
    }

    private static void promise40() {
        Sentences.promise(40, "Returns the targets of the transitions of the result from a state with a letter.", () -> {
            AmbiguityAnalyzer x = built(1, 5, 4, TWO_PATHS);
            long[] due = {6, 0, 0, 0, 8, 0, 0, 16, 0, 0, 0, 0, 0, 0, 0};
            for (int i = 0; i < 15; i++) {
                Due.be("resultSuccessors(" + i / 3 + ", " + i % 3 + ")", x.resultSuccessors(i / 3, i % 3), due[i]);
            }
        });
        Sentences.promise(40, "`state`: the state of the result", () -> {
            AmbiguityAnalyzer x = built(1, 64, 6, RESULT_64);
            Due.be("the first", x.resultSuccessors(0, 0) != 0);
            Due.be("the last", (x.resultSuccessors(63, 0) | x.resultSuccessors(63, 1) | x.resultSuccessors(63, 2)) != 0);
        });
        Sentences.promise(40, "`letter`: the letter, 0 to 2", () -> {
            AmbiguityAnalyzer x = built(0, 3, 3, ">0;0a0;0b1;0c2");
            Due.be("a", x.resultSuccessors(0, 0), 1);
            Due.be("b", x.resultSuccessors(0, 1), 2);
            Due.be("c", x.resultSuccessors(0, 2), 4);
        });
        Sentences.promise(40, "Returns the set of states as a long", () -> {
            AmbiguityAnalyzer x = built(1, 64, 6, RESULT_64);
            long targets = x.resultInitials();
            for (int i = 0; i < 192; i++) {
                targets |= x.resultSuccessors(i / 3, i % 3);
            }
            Due.be("each of the 64 is initial or a target", targets, -1L);
        });
        Sentences.promise(40, "0 if there is no result or no such state or letter.", () -> {
            Refusal.is("no result, no error", 0, () -> Due.analyzer(1, ">0;0a0"), x -> x.resultSuccessors(0, 0));
            Supplier<AmbiguityAnalyzer> five = () -> built(1, 5, 4, TWO_PATHS);
            Refusal.outside("resultSuccessors(?, 0) of 5", 0, five, (x, s) -> x.resultSuccessors(s, 0), 0, 4);
            Refusal.outside("resultSuccessors(0, ?)", 0, five, (x, letter) -> x.resultSuccessors(0, letter), 0, 2);
            Supplier<AmbiguityAnalyzer> most = () -> built(1, 64, 6, RESULT_64);
            Refusal.outside("resultSuccessors(?, 0) of 64", 0, most, (x, s) -> x.resultSuccessors(s, 0), 0, 63);
            Refusal.outside("resultSuccessors(63, ?)", 0, most, (x, letter) -> x.resultSuccessors(63, letter), 0, 2);
            // As cells of one row these would be 0a and 1b.
            Refusal.is("resultSuccessors(-1, 3)", 0, five, x -> x.resultSuccessors(-1, 3));
            Refusal.is("resultSuccessors(0, 4)", 0, five, x -> x.resultSuccessors(0, 4));
            AmbiguityAnalyzer smaller = most.get();
            smaller.reset(1);
            smaller.setInitial(0, true);
            Due.be("build(0)", smaller.build(0), 1);
            Due.be("a state of the result before", smaller.resultSuccessors(1, 0), 0);
        });
    }

    /** A shortest word that leads to the state of the result. */
    private static String wordTo(AmbiguityAnalyzer x, int state) {
        String[] words = new String[64];
        List<Integer> todo = new ArrayList<>();
        for (int s = 0; s < 64; s++) {
            if ((x.resultInitials() >> s & 1) != 0) {
                words[s] = "";
                todo.add(s);
            }
        }
        for (int at = 0; at < todo.size(); at++) {
            for (int letter = 0; letter < 3; letter++) {
                long targets = x.resultSuccessors(todo.get(at), letter);
                for (int t = 0; t < 64; t++) {
                    if ((targets >> t & 1) != 0 && words[t] == null) {
                        words[t] = words[todo.get(at)] + (char) ('a' + letter);
                        todo.add(t);
                    }
                }
            }
        }
        return words[state];
    }

    private static void promise41() {
        Sentences.promise(41, "Returns the number of accepting paths that the result has for the current word.", () -> {
            AmbiguityAnalyzer x = built(1, 5, 4, TWO_PATHS);
            Due.be("the empty word", x.resultAmbiguity(), 0);
            Due.word(x, "ab");
            Due.be("ab", x.resultAmbiguity(), 1);
            Due.be("ab in the automaton", x.wordAmbiguity(), 2);
            Due.word(x, "abb");
            Due.be("abb", x.resultAmbiguity(), 0);
        });
        Sentences.promise(41, "Returns the number of paths, which is 0 or 1", () -> {
            AmbiguityAnalyzer x = built(1, 6, 6, ">0;>1;>2;>3;>4;>5;0!;1!;2!;3!;4!;5!");
            Due.be("the empty word, six paths in the automaton", x.resultAmbiguity(), 1);
            Due.word(x, "a");
            Due.be("a", x.resultAmbiguity(), 0);
            AmbiguityAnalyzer last = Due.analyzer(6, RESULT_64);
            last.build(1);
            String word = wordTo(last, 63);
            Due.be("the word to the last state has room", word.length() <= 20);
            AmbiguityAnalyzer y = built(1, 64, 6, RESULT_64);
            Due.word(y, word);
            Due.be(word + " ends in the last state, which is final", y.resultAmbiguity(), 1);
            AmbiguityAnalyzer twenty = built(0, 1, 1, ">0;0!;0c0");
            Due.word(twenty, "cccccccccccccccccccc");
            Due.be("20 letters", twenty.resultAmbiguity(), 1);
        });
        Sentences.promise(41, "NONE if there is no result.", () -> {
            Refusal.is("resultAmbiguity()", NONE, () -> Due.analyzer(1, ">0;0!"), AmbiguityAnalyzer::resultAmbiguity);
            Due.be("without states there is one", built(0, 0, 1, "0!").resultAmbiguity(), 0);
        });
    }
}
