/** The sentences of the description on automata, words, kinds and witnesses, at the bounds that they name. */
public final class DescriptionBoundariesTest {
    private static final int NO_SUCH_ELEMENT = AmbiguityAnalyzer.NO_SUCH_ELEMENT;
    private static final int NONE = AmbiguityAnalyzer.NONE;

    private DescriptionBoundariesTest() {
    }

    public static void main(String[] args) {
        use();
        automaton();
        paths();
        words();
        loopWords();
        splitWords();
        chains();
        kinds();
        witnesses();
        DescriptionOfResults.hold();
        DescriptionOfErrors.hold();
        Sentences.endOfDescription();
    }

    private static void use() {
        Sentences.section("What it is", "An object is used for at most 512 calls after it has been made", () -> {
            AmbiguityAnalyzer x = new AmbiguityAnalyzer();
            for (int call = 1; call <= 510; call++) {
                int due = call % 3 == 1 ? 0 : 1;
                Due.be("call " + call, call % 3 == 0 ? x.setInitial(0, false) : x.setInitial(0, true), due);
            }
            Due.be("call 511", x.setInitial(0, true), 0);
            Due.be("call 512", x.initialStates(), 1);
        });
        Sentences.saysNothingToTest("The class is not thread-safe.");
        Sentences.saysNothingToTest("The constructor and the methods follow, a promise each: the signature, then what it does.");
    }

    private static void automaton() {
        Sentences.description("promises 7 to 12", "Sets of states are integers in which bit s stands for state s.", () -> {
            for (int s = 0; s < 6; s++) {
                AmbiguityAnalyzer x = Due.analyzer(6, ">" + s + ";" + s + "!;" + s + "b" + s);
                Due.be("initialStates()", x.initialStates(), 1 << s);
                Due.be("finalStates()", x.finalStates(), 1 << s);
                Due.be("successors(" + s + ", 1)", x.successors(s, 1), 1 << s);
                Due.be("usefulStates()", x.usefulStates(), 1 << s);
            }
        });
        Sentences.description("promises 2 to 11 and 16", "Automaton. The automaton has 1 to 6 states, numbered from 0, and the "
            + "letters a, b and c, numbered 0, 1 and 2.", () -> {
                AmbiguityAnalyzer x = new AmbiguityAnalyzer();
                Due.be("reset(0)", x.reset(0), AmbiguityAnalyzer.OUT_OF_RANGE);
                Due.be("reset(7)", x.reset(7), AmbiguityAnalyzer.OUT_OF_RANGE);
                Due.be("reset(6)", x.reset(6), 1);
                Due.be("parse()", Due.parsed(x, "0a1;0b2;0c5"), 3);
                int[] due = {NO_SUCH_ELEMENT, 2, 4, 32, NO_SUCH_ELEMENT};
                for (int letter = -1; letter <= 3; letter++) {
                    Due.be("successors(0, " + letter + ")", x.successors(0, letter), due[letter + 1]);
                }
                Due.be("successors(5, 0)", x.successors(5, 0), 0);
                Due.be("successors(6, 0)", x.successors(6, 0), NO_SUCH_ELEMENT);
                Due.be("successors(-1, 0)", x.successors(-1, 0), NO_SUCH_ELEMENT);
                Due.be("reset(1)", x.reset(1), 6);
                Due.be("successors(0, 0)", x.successors(0, 0), 0);
                Due.be("successors(1, 0)", x.successors(1, 0), NO_SUCH_ELEMENT);
            });
        Sentences.description("promises 7 to 10", "Some states are initial, some are final.", () -> {
            AmbiguityAnalyzer x = Due.analyzer(6, ">0;>1;>2;>3;>4;>5;0!;1!;2!;3!;4!;5!");
            Due.be("all of both", x.initialStates() + 64 * x.finalStates(), 64 * 63 + 63);
            Due.be("none of both", Due.analyzer(6, "").initialStates() + Due.analyzer(6, "").finalStates(), 0);
        });
        Sentences.description("promises 4 to 6", "A transition leads from a state with a letter to a state; each transition is "
            + "there once or not at all.", () -> {
                AmbiguityAnalyzer x = Due.analyzer(2, ">0;1!;0b1");
                Due.be("addTransition(0, 1, 1) again", x.addTransition(0, 1, 1), 0);
                Due.be("parse() of it", Due.parsed(x, "0b1;0b1"), 2);
                Due.be("transitionCount()", x.transitionCount(), 1);
                Due.be("pathsOfLength(1)", x.pathsOfLength(1), 1);
                Due.be("removeTransition(0, 1, 1)", x.removeTransition(0, 1, 1), 1);
                Due.be("pathsOfLength(1)", x.pathsOfLength(1), 0);
            });
    }

    private static void ambiguity(long due, String word, int states, String items) {
        AmbiguityAnalyzer x = Due.analyzer(states, items);
        Due.word(x, word);
        Due.be("wordAmbiguity() of \"" + word + "\" in " + items, x.wordAmbiguity(), due);
    }

    private static void paths() {
        Sentences.description("promises 12, 21 and 22", "A path is a sequence of transitions, each of which starts where the one "
            + "before it ends; a state together with no transition is an empty path.", () -> {
                ambiguity(1, "ab", 3, ">0;2!;0a1;1b2");
                ambiguity(0, "ab", 4, ">0;3!;0a1;2b3");
                ambiguity(0, "ba", 3, ">0;2!;0a1;1b2");
                ambiguity(1, "", 2, ">0;>1;1!;0a1");
                Due.be("an empty path", Due.analyzer(6, ">5;5!").pathsOfLength(0), 1);
                Due.be("its state is useful", Due.analyzer(6, ">5;5!").usefulStates(), 32);
            });
        Sentences.description("promise 21", "The word of a path consists of the letters of its transitions.", () -> {
            ambiguity(1, "cab", 4, ">0;3!;0c1;1a2;2b3");
            ambiguity(0, "ca", 4, ">0;3!;0c1;1a2;2b3");
            ambiguity(0, "bac", 4, ">0;3!;0c1;1a2;2b3");
        });
        Sentences.description("promises 21 and 22", "Two paths are different if they do not consist of the same transitions or do "
            + "not start in the same state.", () -> {
                ambiguity(2, "", 2, ">0;>1;0!;1!");
                ambiguity(2, "aa", 4, ">0;3!;0a1;0a2;1a3;2a3");
                ambiguity(2, "aa", 2, ">0;1!;0a0;0a1;1a1");
                Due.be("by other letters", Due.analyzer(2, ">0;1!;0a1;0b1;0c1").pathsOfLength(1), 3);
            });
        Sentences.description("promises 21 and 22", "A path is accepting if it starts in an initial state and ends in a final state.",
            () -> {
                ambiguity(1, "a", 2, ">0;1!;0a1");
                ambiguity(0, "a", 2, ">0;0!;0a1");
                ambiguity(0, "a", 2, ">1;1!;0a1");
                ambiguity(1, "a", 3, ">0;1!;0a1;0a2;2a1");
            });
        Sentences.description("promises 23, 27 and 35", "A word is accepted if it is the word of an accepting path.", () -> {
            AmbiguityAnalyzer x = Due.analyzer(3, ">0;>1;2!;0a2;1a2;0b0;1c0");
            Due.be("wordsOfLength(0)", x.wordsOfLength(0), 0);
            Due.be("wordsOfLength(1)", x.wordsOfLength(1), 1);
            Due.be("wordsOfLength(2)", x.wordsOfLength(2), 2);
        });
        Sentences.description("promises 12, 13 and 27 to 30", "A state is useful if it lies on an accepting path.", () -> {
            Due.be("first, middle and last", Due.analyzer(4, ">0;2!;0a1;1b2;2c3").usefulStates(), 0b0111);
            Due.be("on an empty path", Due.analyzer(2, ">1;1!;0a1").usefulStates(), 0b10);
            Due.be("reached, but it leads nowhere", Due.analyzer(2, ">0;0!;0a1").usefulStates(), 0b01);
            Due.be("not reached, but it leads on", Due.analyzer(2, ">0;0!;1a0").usefulStates(), 0b01);
        });
    }

    private static void words() {
        Sentences.description("promises 30 to 33 and 35", "Words are ordered by length, and words of the same length "
            + "lexicographically.", () -> {
                Due.same("c before aa", Due.witness(Due.analyzer(3, ">0;>2;1!;0c1;2c1;0a0;0a2;2a1"), 0), "c");
                Due.same("aa before ab", Due.witness(Due.analyzer(3, ">0;2!;0a1;1b2;1a2"), 3), "aa");
                Due.same("ab before ba", Due.witness(Due.analyzer(4, ">0;3!;0b1;1a3;0a2;2b3"), 3), "ab");
                Due.same("ac before ba", Due.witness(Due.analyzer(4, ">0;3!;0b1;1a3;0a2;2c3"), 3), "ac");
                Due.same("the empty word before a", Due.witness(Due.analyzer(2, ">0;>1;0!;1!;0a0;0a1"), 0), "");
            });
        Sentences.description("promises 21, 24, 25 and 27", "Ambiguity. The ambiguity of a word is the number of its accepting paths.",
            () -> {
                ambiguity(0, "b", 3, ">0;>1;0!;1!;2!;0a0;0a1;0a2");
                ambiguity(3, "a", 3, ">0;>1;0!;1!;2!;0a0;0a1;0a2");
                ambiguity(2, "", 3, ">0;>1;0!;1!;2!;0a0;0a1;0a2");
            });
        Sentences.description("promises 25 and 31", "The automaton is unambiguous if no word has an ambiguity greater than 1.", () -> {
            AmbiguityAnalyzer x = Due.analyzer(4, ">0;3!;0a1;0a2;1a3;2b3");
            Due.be("1 for each word", x.kind(), 0);
            Due.be("witnessLength(0)", x.witnessLength(0), NONE);
            x.addTransition(2, 0, 3);
            Due.be("2 for one word", x.kind(), 1);
            Due.be("witnessLength(0)", x.witnessLength(0), 2);
            Due.be("no word at all", new AmbiguityAnalyzer().kind(), 0);
            Due.be("2 paths that are not accepting", Due.analyzer(4, ">0;0!;0a1;0a2;1a3;2a3").kind(), 0);
        });
    }

    private static void loop(int due, int state, int states, String items) {
        Due.be("isLoopState(" + state + ") of " + items, Due.analyzer(states, items).isLoopState(state), due);
    }

    private static void loopWords() {
        Sentences.description("promises 28 and 30 to 33", "A loop word of a state is a word for which there are at least two different "
            + "paths from this state to itself.", () -> {
                loop(0, 0, 1, ">0;0!");
                loop(0, 0, 1, ">0;0!;0a0;0b0;0c0");
                loop(0, 0, 3, ">0;0!;0a1;0a2;1a0;2b0");
                loop(1, 0, 3, ">0;0!;0a1;0a2;1a0;2a0");
                Due.same("a shorter word for two paths elsewhere", Due.witness(Due.analyzer(3, ">0;0!;0a1;0a2;1a0;2a0"), 1), "aa");
                // Two different paths with the word aa lead away, but not back.
                loop(0, 0, 4, ">0;3!;0a1;0a2;1a3;2a3;3a3");
            });
        Sentences.description("promises 25, 28 and 30", "A loop state is a useful state that has a loop word.", () -> {
            String loop = ";1a1;1a2;2a1";
            loop(0, 1, 3, ">0;0!" + loop);
            loop(0, 1, 3, ">0;0!;0b1" + loop);
            loop(0, 1, 3, ">0;0!;1b0" + loop);
            loop(1, 1, 3, ">0;0!;0b1;1b0" + loop);
            loop(1, 2, 3, ">0;0!;0b1;1b0" + loop);
        });
    }

    private static void pair(int due, int states, String items) {
        Due.be("isSplitPair(0, 1) of " + items, Due.analyzer(states, items).isSplitPair(0, 1), due);
    }

    private static void splitWords() {
        Sentences.description("promises 29 to 33", "A split word of two different states p and q is a word of at least one letter for "
            + "which there are a path from p to p, a path from p to q and a path from q to q.", () -> {
                Due.same("one letter is enough", Due.witness(Due.analyzer(2, ">0;1!;0c0;0c1;1c1"), 2), "c");
                pair(0, 2, ">0;1!;>1;0!");
                pair(1, 2, ">0;1!;0a0;0a1;1a1");
                pair(0, 2, ">0;1!;0a1;1a1");
                pair(0, 2, ">0;>1;0!;1!;0a0;1a1");
                pair(0, 2, ">0;1!;0a0;0a1");
                pair(0, 2, ">0;1!;0a0;0a1;1b1");
                pair(1, 4, ">0;1!;0a2;2b0;2b1;1a3;3b1");
                Due.be("one state is no pair", Due.analyzer(1, ">0;0!;0a0").isSplitPair(0, 0), 0);
            });
        Sentences.description("promises 25, 29 and 30", "A split pair consists of two different useful states p and q that have a "
            + "split word; the order of p and q matters.", () -> {
                String split = ";0a0;0a1;1a1";
                pair(1, 3, ">0;1!" + split);
                pair(0, 3, ">0;0!" + split);
                pair(0, 3, ">1;1!" + split);
                pair(0, 3, "1!;2b0;>1" + split);
                pair(1, 3, ">2;1!;2b0" + split);
                pair(0, 2, ">0;1!;0a0;1a0;1a1");
                Due.be("isSplitPair(1, 0)", Due.analyzer(2, ">0;1!" + split).isSplitPair(1, 0), 0);
            });
    }

    private static void degree(int due, int states, String items) {
        Due.be("degree() of " + items, Due.analyzer(states, items).degree(), due);
    }

    private static void chains() {
        Sentences.description("promise 26", "A chain of split pairs is a sequence of split pairs (p1, q1), (p2, q2) and so on, in which "
            + "there is a path, possibly empty, from each q to the p of the next pair.", () -> {
                degree(2, 3, ">0;2!;0a0;0a1;1a1;1b1;1b2;2b2");
                degree(2, 4, ">0;3!;0a0;0a1;1a1;1c2;2b2;2b3;3b3");
                degree(2, 5, ">0;4!;0a0;0a1;1a1;1c2;2c3;3b3;3b4;4b4");
                degree(1, 4, ">0;>2;1!;3!;0a0;0a1;1a1;2b2;2b3;3b3");
                degree(1, 4, ">0;1!;3!;0a0;0a1;1a1;0c2;2b2;2b3;3b3");
                degree(1, 4, ">0;>2;1!;0a0;0a1;1a1;2b2;2b3;3b3;3c1");
                degree(2, 4, ">2;1!;0a0;0a1;1a1;2b2;2b3;3b3;3c0");
            });
        Sentences.description("promise 26", "The degree of an automaton of kind 2 is the largest number of split pairs in a chain.", () -> {
            degree(1, 2, ">0;1!;0a0;0a1;1a1");
            degree(5, 6, ">0;5!;0a0;0a1;1a1;1a2;2a2;2a3;3a3;3a4;4a4;4a5;5a5");
            // A chain of one pair beside a chain of two.
            degree(2, 5, ">0;4!;2!;0a0;0a4;4a4;0b0;0b1;1b1;1b2;2b2");
        });
        Sentences.description("promise 26", "The degree of an automaton of kind 0 or 1 is 0.", () -> {
            degree(0, 1, "");
            degree(0, 1, ">0;0!;0a0;0b0;0c0");
            degree(0, 2, ">0;>1;0!;1!");
            degree(0, 6, ">0;>1;>2;>3;>4;>5;0!;1!;2!;3!;4!;5!;0a0;1a1");
        });
    }

    private static void kind(int due, int states, String items) {
        Due.be("kind() of " + items, Due.analyzer(states, items).kind(), due);
    }

    private static void kinds() {
        Sentences.description("promise 25", "Kinds. The automaton is of kind 0 if it is unambiguous.", () -> {
            kind(0, 1, "");
            kind(0, 1, ">0;0!");
            kind(0, 3, ">0;0!;1a1;1a2;2a1;2a2");
            kind(0, 2, ">0;1!;0a0;0b1;1a1");
        });
        Sentences.description("promise 25", "Otherwise it is of kind 3, exponentially ambiguous, if there is a loop state.", () -> {
            kind(3, 2, ">0;0!;0a0;0a1;1a0");
            kind(3, 4, ">0;3!;0a0;0a1;1a0;0b2;2b2;2b3;3b3");
            kind(2, 4, ">0;1!;3!;0a0;0a1;1a1;2a2;2a3;3a2");
        });
        Sentences.description("promise 25", "Otherwise it is of kind 2, polynomially ambiguous, if there is a split pair.", () -> {
            kind(2, 2, ">0;1!;0a0;0a1;1a1");
            kind(2, 6, ">5;4!;5c5;5c4;4c4");
            kind(1, 5, ">0;>4;4!;1!;0a1;0a4;1b1;4b4;2a2;2a3;3a3");
        });
        Sentences.description("promise 25", "Otherwise it is of kind 1, finitely ambiguous.", () -> {
            kind(1, 2, ">0;>1;0!;1!");
            kind(1, 2, ">0;>1;0!;1!;0a0;1a1;0b0;1b1;0c0;1c1");
            kind(1, 4, ">0;3!;0a1;0a2;1a3;2a3");
        });
    }

    private static void witnesses() {
        String two = ">0;>5;0!;5!;0b0;0b1;1b0;5a5;5a4;4a5;4b4";
        Sentences.description("promises 31 to 33", "Witnesses. There are four witnesses.", () -> {
            int[] due = {NO_SUCH_ELEMENT, 0, 2, 2, 0, NO_SUCH_ELEMENT};
            AmbiguityAnalyzer x = Due.analyzer(6, ">0;>5;0!;5!;0b1;0b2;1b0;2b0;5a5");
            for (int witness = -1; witness <= 4; witness++) {
                Due.be("witnessLength(" + witness + ")", x.witnessLength(witness), due[witness + 1]);
            }
        });
        Sentences.description("promises 31 to 33", "Witness 0 is the first word with an ambiguity greater than 1.", () -> {
            Due.same("of the empty word", Due.witness(Due.analyzer(6, two), 0), "");
            Due.same("of aa, ab and ba", Due.witness(Due.analyzer(4, ">0;3!;0a1;0a2;1b3;2b3;1a3;0b1;0b2"), 0), "ab");
            AmbiguityAnalyzer x = Due.analyzer(4, ">0;3!;0a1;0a2;1b3;2b3");
            Due.same("ab", Due.witness(x, 0), "ab");
            x.removeTransition(2, 1, 3);
            Due.same("no word", Due.witness(x, 0), null);
        });
        Sentences.description("promises 30 to 33", "Witness 1 is the first loop word of the lowest loop state.", () -> {
            Due.same("of state 0, not of 4 or 5", Due.witness(Due.analyzer(6, two), 1), "bb");
            Due.be("state 0", Due.analyzer(6, two).witnessState(1), 0);
            Due.be("state 4", Due.analyzer(6, ">5;5!;5a5;5a4;4a5;4b4").witnessState(1), 4);
        });
        Sentences.description("promises 30 to 33", "Witness 2 is the first split word of the first split pair; pairs are ordered by p, "
            + "then by q.", () -> {
                AmbiguityAnalyzer x = Due.analyzer(6, ">0;>1;5!;4!;0c0;0c5;5c5;1a1;1a4;4a4");
                Due.same("p first", Due.witness(x, 2), "c");
                Due.be("p first", x.witnessState(2), 5);
                x.addTransition(0, 1, 0);
                x.addTransition(0, 1, 4);
                x.addTransition(4, 1, 4);
                Due.same("then q", Due.witness(x, 2), "b");
                Due.be("then q", x.witnessState(2), 4);
            });
        Sentences.description("promises 31 to 33 and 35", "Witness 3 is the lightest accepted word: the accepted word whose letters have "
            + "the lowest sum of weights; among several the first one.", () -> {
                AmbiguityAnalyzer x = Due.analyzer(4, ">0;3!;0a3;0b1;1b3;0c2;2c3");
                Due.same("all weights 1", Due.witness(x, 3), "a");
                x.setWeight(0, 2);
                Due.same("a and bb have 2", Due.witness(x, 3), "a");
                x.setWeight(0, 3);
                Due.same("bb and cc have 2", Due.witness(x, 3), "bb");
                x.setWeight(1, 2);
                Due.same("only cc has 2", Due.witness(x, 3), "cc");
            });
    }
}
