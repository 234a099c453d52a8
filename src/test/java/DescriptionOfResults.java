/** The sentences of the description on constructions, shelves and the text, at the bounds that they name. */
final class DescriptionOfResults {
    private DescriptionOfResults() {
    }

    static void hold() {
        orderOfResults();
        subsets();
        leastPaths();
        leastPathSets();
        shelves();
        texts();
        errorPositions();
    }

    private static AmbiguityAnalyzer built(int construction, int result, int states, String items) {
        AmbiguityAnalyzer x = Due.analyzer(states, items);
        Due.be("build(" + construction + ") of " + items, x.build(construction), result);
        return x;
    }

    private static void targets(AmbiguityAnalyzer x, long... due) {
        for (int i = 0; i < due.length; i++) {
            Due.be("resultSuccessors(" + i / 3 + ", " + i % 3 + ")", x.resultSuccessors(i / 3, i % 3), due[i]);
        }
    }

    private static void orderOfResults() {
        Sentences.description("promises 36 to 41", "Constructions. There are two constructions of an automaton that accepts the same "
            + "words, called the result.", () -> {
                Due.be("build(-1)", new AmbiguityAnalyzer().build(-1), AmbiguityAnalyzer.NO_SUCH_ELEMENT);
                Due.be("build(2)", new AmbiguityAnalyzer().build(2), AmbiguityAnalyzer.NO_SUCH_ELEMENT);
                String[] words = {"", "a", "b", "ab", "ba", "aab", "abab", "cab"};
                for (int construction = 0; construction < 2; construction++) {
                    AmbiguityAnalyzer x = Due.analyzer(3, ">0;>2;2!;0a1;0a2;1b0;2b2;1b2;2a0");
                    x.build(construction);
                    for (String word : words) {
                        Due.word(x, word);
                        Due.be("resultAmbiguity() of " + word, x.resultAmbiguity(), Math.min(1, x.wordAmbiguity()));
                    }
                }
            });
        Sentences.description("promises 36 to 40", "Its states are numbered from 0 in the order in which they are found: first the "
            + "initial ones, in the order that is described below, then, for each state of the result in the order of its number and "
            + "for each letter in increasing order, the targets of its transitions, in the order that is described below.", () -> {
                // 0 = {0}, by a {5}, by b {4}, by c {3}, then of {5} {2}, of {4} {1}.
                targets(built(0, 6, 6, ">0;0c3;0b4;0a5;5c2;4a1"), 2, 4, 8, 0, 0, 16, 32, 0, 0, 0, 0, 0, 0, 0, 0, 0, 0, 0);
                // 0 = (3, {}), 1 = (5, {3}), then (4, {}) and (5, {4}) by a of 0, (0, {4, 5}) by c of 1, (0, {}) by c of 3.
                targets(built(1, 6, 6, ">5;>3;3a5;3a4;5c0;3c5;3c4"), 12, 0, 12, 0, 0, 16, 0, 0, 0, 0, 0, 32, 0);
            });
    }

    private static void subsets() {
        Sentences.description("promises 36 to 40", "Construction 0, subsets. The states are nonempty sets of states.", () -> {
            built(0, 1, 2, ">0;1!");
            built(0, 7, 3, ">0;0a1;1a2;2a0;0b0;0b1;1b1;2b2;0c0;0c1;0c2;1c1;2c2");
        });
        Sentences.description("promises 36 and 38", "The only initial one is the set of all initial states.", () -> {
            Due.be("of one", built(0, 1, 6, ">5").resultInitials(), 1);
            Due.be("of six", built(0, 1, 6, ">0;>1;>2;>3;>4;>5").resultInitials(), 1);
            targets(built(0, 2, 4, ">0;>3;3b2"), 0, 2, 0, 0, 0, 0);
        });
        Sentences.description("promise 40", "From a set there is one transition with a letter, to the set of all states to which "
            + "transitions with this letter lead from states of the set.", () -> {
                // {0, 1}, by a {2, 3}, by b {1}, then {4} and {3}.
                AmbiguityAnalyzer x = built(0, 5, 5, ">0;>1;4!;0a2;0a3;1a3;2b4;0b1");
                targets(x, 2, 4, 0, 0, 8, 0, 16, 0, 0);
            });
        Sentences.description("promise 39", "A set is final if it contains a final state.", () -> {
            Due.be("none of it", built(0, 1, 3, ">0;>1;2!").resultFinals(), 0);
            Due.be("one of two", built(0, 1, 2, ">0;>1;1!").resultFinals(), 1);
            Due.be("all of two", built(0, 1, 2, ">0;>1;0!;1!").resultFinals(), 1);
        });
        Sentences.description("promises 36 and 40", "Transitions to the empty set are left out.", () -> {
            AmbiguityAnalyzer x = built(0, 2, 2, ">0;1!;0a1");
            targets(x, 2, 0, 0, 0, 0, 0);
            Due.word(x, "ab");
            Due.be("resultAmbiguity()", x.resultAmbiguity(), 0);
        });
        Sentences.description("promises 36 to 38", "If there is no initial state, the result has no states.", () -> {
            AmbiguityAnalyzer x = built(0, 0, 6, "0!;1!;0a1;1a0");
            Due.be("resultStateCount()", x.resultStateCount(), 0);
            Due.be("resultInitials()", x.resultInitials(), 0);
            Due.be("resultSuccessors(0, 0)", x.resultSuccessors(0, 0), 0);
        });
    }

    private static void leastPaths() {
        Sentences.description("promises 36 to 40", "Construction 1, least paths. The states are pairs of a state q and a set of other "
            + "states or of the same state, called the lower set.", () -> {
                // (0, {}), (1, {0}), then by a (2, {}) of the first and (2, {2}) of the second.
                AmbiguityAnalyzer x = built(1, 4, 3, ">0;>1;2!;0a2;1a2");
                targets(x, 4, 0, 0, 8, 0, 0);
                Due.be("(2, {2}) is not final", x.resultFinals(), 4);
            });
        Sentences.description("promises 36 and 38", "For each initial state there is one initial pair, whose lower set consists of all "
            + "lower initial states; these pairs are found in increasing order of q.", () -> {
                Due.be("no initial state", built(1, 0, 2, "1!;0a1").resultInitials(), 0);
                Due.be("the lowest has no lower one", built(1, 1, 6, ">5;5!").resultFinals(), 1);
                Due.be("of three", built(1, 3, 6, ">5;>1;>3").resultInitials(), 7);
                Due.be("1 is the first, and lower than the others", built(1, 3, 6, ">5;>1;>3;1!;3!;5!").resultFinals(), 1);
                Due.be("3 is the second, and lower than 5", built(1, 3, 6, ">5;>1;>3;3!;5!").resultFinals(), 2);
                Due.be("5 is the third", built(1, 3, 6, ">5;>1;>3;5!").resultFinals(), 4);
                Due.be("2 is lower, but not initial", built(1, 3, 6, ">5;>1;>3;2!;5!").resultFinals(), 4);
            });
        Sentences.description("promises 36 and 40", "If a transition with a letter leads from q to r, then a transition with the same "
            + "letter leads from the pair of q and a lower set to the pair of r and a new lower set.", () -> {
                AmbiguityAnalyzer x = built(1, 4, 4, ">0;3!;0a1;0b2;0c3");
                targets(x, 2, 4, 8, 0, 0, 0);
            });
    }

    private static void leastPathSets() {
        Sentences.description("promises 36, 39 and 40", "The new lower set consists of all states to which transitions with this letter "
            + "lead from states of the lower set, and of all states lower than r to which transitions with this letter lead from q.",
            () -> {
                // From (0, {}) by a to (1, {}), (2, {1}) and (3, {1, 2}): of the three finals only the least is final.
                Due.be("all three", built(1, 4, 4, ">0;1!;2!;3!;0a1;0a2;0a3").resultFinals(), 2);
                Due.be("the last two", built(1, 4, 4, ">0;2!;3!;0a1;0a2;0a3").resultFinals(), 4);
                Due.be("the last one", built(1, 4, 4, ">0;3!;0a1;0a2;0a3").resultFinals(), 8);
                // From (1, {0}) by a to (3, {2, 4}), for 0a2 and 0a4; by b to (3, {}), for 0 has no b.
                String items = ">0;>1;1a3;0a2;0a4;1b3;0c5;3!";
                AmbiguityAnalyzer x = built(1, 7, 6, items);
                targets(x, 12, 0, 16, 32, 64, 0);
                Due.be("both pairs of 3", x.resultFinals(), 96);
                Due.be("not with a lower 2", built(1, 7, 6, items + ";2!").resultFinals(), 64 + 4);
                Due.be("not with a lower 4", built(1, 7, 6, items + ";4!").resultFinals(), 64 + 8);
                Due.be("but with 5, for 0c5 has another letter", built(1, 7, 6, items + ";5!").resultFinals(), 96 + 16);
            });
        Sentences.description("promise 40", "These pairs are found in increasing order of r.", () -> {
            AmbiguityAnalyzer x = built(1, 4, 4, ">1;0!;1a3;1a0;1a2");
            targets(x, 14, 0, 0);
            Due.be("(0, {}) is the first of them", x.resultFinals(), 2);
            Due.be("(3, {0, 2}) is the last", built(1, 4, 4, ">1;3!;1a3;1a0;1a2").resultFinals(), 8);
        });
        Sentences.description("promise 39", "A pair is final if q is final and the lower set contains no final state.", () -> {
            Due.be("q is final", built(1, 2, 2, ">0;>1;1!").resultFinals(), 2);
            Due.be("the lower one is final", built(1, 2, 2, ">0;>1;0!").resultFinals(), 1);
            Due.be("both are final", built(1, 2, 2, ">0;>1;0!;1!").resultFinals(), 1);
            Due.be("none is final", built(1, 2, 3, ">0;>1;2!").resultFinals(), 0);
        });
    }

    private static void shelves() {
        Sentences.description("promises 42 to 45", "Shelves. There are 4 shelves, numbered from 0.", () -> {
            AmbiguityAnalyzer x = new AmbiguityAnalyzer();
            for (int shelf = -1; shelf <= 4; shelf++) {
                boolean there = shelf >= 0 && shelf < 4;
                Due.be("keepWord(" + shelf + ")", x.keepWord(shelf), there ? 0 : AmbiguityAnalyzer.NO_SUCH_ELEMENT);
                Due.be("useWord(" + shelf + ")", x.useWord(shelf), there ? 0 : AmbiguityAnalyzer.NO_SUCH_ELEMENT);
                Due.be("keepCounts(" + shelf + ", 0)", x.keepCounts(shelf, 0), there ? 1 : AmbiguityAnalyzer.NO_SUCH_ELEMENT);
                Due.be("shelfElement(" + shelf + ", 0)", x.shelfElement(shelf, 0), there ? 0 : AmbiguityAnalyzer.NO_SUCH_ELEMENT);
            }
        });
        Sentences.description("promises 42 to 45", "A shelf is empty, as all are at first, or holds a word or a row of counts.", () -> {
            for (int shelf = 0; shelf < 4; shelf++) {
                AmbiguityAnalyzer x = new AmbiguityAnalyzer();
                Due.be("useWord(" + shelf + ")", x.useWord(shelf), AmbiguityAnalyzer.EMPTY_SHELF);
                Due.be("shelfElement(" + shelf + ", 0)", x.shelfElement(shelf, 0), AmbiguityAnalyzer.EMPTY_SHELF);
                x.keepWord(shelf);
                Due.be("useWord(" + shelf + ") of a word", x.useWord(shelf), 0);
                x.keepCounts(shelf, 0);
                Due.be("useWord(" + shelf + ") of a row", x.useWord(shelf), AmbiguityAnalyzer.WRONG_TYPE);
            }
        });
    }

    private static void parse(int due, int states, String text) {
        AmbiguityAnalyzer x = Due.analyzer(states, "");
        Due.be("parse() of \"" + text + "\" with " + states + " states", Due.parsed(x, text), due);
    }

    private static void texts() {
        Sentences.description("promises 15 and 16", "Text. The text buffer holds at most 60 characters.", () -> {
            AmbiguityAnalyzer x = Due.analyzer(6, "");
            String text = "0a0;1a2;1a2;1a2;1a2;1a2;1a2;1a2;1a2;1a2;1a2;1a2;1a2;1a2;1a2;5";
            Due.be("61 characters", text.length(), 61);
            for (int i = 0; i < 61; i++) {
                Due.be("append " + (i + 1), x.append(text.charAt(i)), i < 60 ? i + 1 : AmbiguityAnalyzer.FULL);
            }
            Due.be("parse()", x.parse(), -160);
        });
        Sentences.description("promise 16", "The grammar is as follows, without spaces:", () -> {
            parse(-100, 2, " 0a1");
            parse(-101, 2, "0 a1");
            parse(-102, 2, "0a 1");
            parse(-103, 2, "0a1 ");
            parse(-104, 2, "0a1; 1!");
            parse(-103, 2, "0a1 ;1!");
            parse(-101, 2, "> 0");
        });
        Sentences.description("promise 16", "automaton: item { ; item }", () -> {
            parse(1, 1, "0!");
            parse(2, 1, "0!;>0");
            parse(3, 1, "0!;>0;0a0");
            parse(-100, 1, ";0!");
            parse(-103, 1, "0!;");
            parse(-103, 1, "0!;;0!");
            parse(-102, 1, "0!,0!");
            parse(-102, 1, "0!0!");
        });
        Sentences.description("promise 16", "item: > state, or state !, or state letter state", () -> {
            AmbiguityAnalyzer x = Due.analyzer(2, "");
            Due.be("parse()", Due.parsed(x, ">0;1!;0b1"), 3);
            Due.be("the answers", x.initialStates() * 100 + x.finalStates() * 10 + x.successors(0, 1), 122);
            parse(-102, 2, ">0!");
            parse(-101, 2, ">!");
            parse(-101, 2, "0>");
            parse(-100, 2, "!0");
            parse(-102, 2, "0a!");
            parse(-102, 2, "0aa");
            parse(-101, 2, "00a");
            parse(-103, 2, "0a01");
        });
        Sentences.description("promise 16", "A state is a digit and must be lower than the number of states; a letter is a, b or c.", () -> {
            for (int states = 1; states <= 6; states++) {
                int last = states - 1;
                parse(3, states, ">" + last + ";" + last + "!;" + last + "a" + last);
                parse(-101, states, ">" + states);
                parse(-100, states, states + "!");
                parse(-102, states, "0a" + states);
            }
            parse(-100, 6, "9!");
            parse(-100, 6, "/!");
            parse(-100, 6, ":!");
            parse(3, 1, "0a0;0b0;0c0");
            parse(-101, 1, "0`0");
            parse(-101, 1, "0d0");
            parse(-101, 1, "0A0");
            parse(-101, 1, "0C0");
        });
        Sentences.description("promise 16", "The first form makes the state initial, the second one makes it final, and the third one is "
            + "a transition.", () -> {
                for (int s = 0; s < 6; s++) {
                    AmbiguityAnalyzer x = Due.analyzer(6, "");
                    Due.parsed(x, ">" + s);
                    Due.same(">" + s, Observed.automaton(x), Observed.automaton(Due.analyzer(6, ">" + s)));
                    Due.parsed(x, s + "!");
                    Due.same(s + "!", Observed.automaton(x), Observed.automaton(Due.analyzer(6, ">" + s + ";" + s + "!")));
                }
                AmbiguityAnalyzer x = Due.analyzer(6, "");
                Due.parsed(x, "5c0");
                Due.same("5c0", Observed.automaton(x), Observed.automaton(Due.analyzer(6, "5c0")));
            });
    }

    private static void errorPositions() {
        Sentences.description("promise 16", "The error position is the position, from 0, of the first character that cannot continue any "
            + "text of the grammar; it is the length of the text if the text ends too early.", () -> {
                parse(-100, 2, "x");
                parse(-100, 2, "xx");
                parse(-101, 2, ">x");
                parse(-101, 2, ">2;x");
                parse(-102, 2, ">0x");
                parse(-103, 2, ">0;x");
                parse(-106, 2, "0a1;1!x;x");
                parse(-101, 2, ">");
                parse(-101, 2, "0");
                parse(-102, 2, "0a");
                parse(-104, 2, "0a1;");
                parse(-105, 2, "0a1;>");
                parse(-105, 2, "0a1;1");
                parse(-106, 2, "0a1;1c");
            });
    }
}
