import java.util.function.Supplier;

/** The sentences of the description on errors and details, and the constants. */
final class DescriptionOfErrors {
    private static final int NO_SUCH_ELEMENT = AmbiguityAnalyzer.NO_SUCH_ELEMENT;
    private static final int OUT_OF_RANGE = AmbiguityAnalyzer.OUT_OF_RANGE;
    private static final int NONE = AmbiguityAnalyzer.NONE;
    private static final int EMPTY_SHELF = AmbiguityAnalyzer.EMPTY_SHELF;
    private static final String LOOP = ">0;0!;0a0;0a1;1a0";
    /** Of kind 3, with more than 1000 rows and too many paths and words, so that several errors apply to it. */
    private static final String EVERYTHING_GROWS = ">0;>1;>2;0!;1!;2!;0a0;0a1;0a2;1a0;1a1;1a2;2a0;2a1;2a2;0b1;1b2;2b0;0c1;1c0;2c2";

    private DescriptionOfErrors() {
    }

    static void hold() {
        errors();
        orderOfErrors();
        replacing();
        details();
        constants();
    }

    private static void errors() {
        Sentences.description("promises 2 to 47", "Errors. A method that returns an error code leaves the state unchanged, except that "
            + "parse empties the text buffer.", () -> {
                Supplier<AmbiguityAnalyzer> busy = Busy::analyzer;
                // One call of each method that can be refused; the tests of the promises have all of them.
                Refusal.is("reset(7)", OUT_OF_RANGE, busy, x -> x.reset(7));
                Refusal.is("addTransition(5, 3, 5)", NO_SUCH_ELEMENT, busy, x -> x.addTransition(5, 3, 5));
                Refusal.is("removeTransition(6, 0, 0)", NO_SUCH_ELEMENT, busy, x -> x.removeTransition(6, 0, 0));
                Refusal.is("setInitial(6, true)", NO_SUCH_ELEMENT, busy, x -> x.setInitial(6, true));
                Refusal.is("setFinal(6, true)", NO_SUCH_ELEMENT, busy, x -> x.setFinal(6, true));
                Refusal.is("randomize(1, 21)", OUT_OF_RANGE, busy, x -> x.randomize(1, 21));
                Refusal.is("append(127)", OUT_OF_RANGE, busy, x -> x.append(127));
                Refusal.is("appendLetter(3)", NO_SUCH_ELEMENT, busy, x -> x.appendLetter(3));
                Refusal.is("takeWitness(1)", NONE, busy, x -> x.takeWitness(1));
                Refusal.is("setWeight(0, 101)", OUT_OF_RANGE, busy, x -> x.setWeight(0, 101));
                Refusal.is("build(2)", NO_SUCH_ELEMENT, busy, x -> x.build(2));
                Refusal.is("keepWord(4)", NO_SUCH_ELEMENT, busy, x -> x.keepWord(4));
                Refusal.is("keepCounts(1, 31)", OUT_OF_RANGE, busy, x -> x.keepCounts(1, 31));
                Refusal.is("useWord(0)", EMPTY_SHELF, busy, x -> x.useWord(0));
                Refusal.is("shelfElement(1, 3)", NO_SUCH_ELEMENT, busy, x -> x.shelfElement(1, 3));
                AmbiguityAnalyzer x = Busy.withText(">1;2!;1a2;0a");
                Due.be("parse()", x.parse(), -112);
                Due.same("the state behind parse()", Observed.all(x), Observed.all(Busy.withText("")));
            });
        Sentences.description("promises 5, 24, 27, 29 and 38 to 40", "A condition that is only listed in words, without a code, is no "
            + "error.", () -> {
                Due.be("removeTransition(0, 0, 0)", new AmbiguityAnalyzer().removeTransition(0, 0, 0), 0);
                Due.be("averageBits(60)", new AmbiguityAnalyzer().averageBits(60), 0x7ff8000000000000L);
                Due.be("maximumAmbiguity()", new AmbiguityAnalyzer().maximumAmbiguity(), 0);
                Due.be("isSplitPair(0, 0)", new AmbiguityAnalyzer().isSplitPair(0, 0), 0);
                Due.be("resultInitials()", new AmbiguityAnalyzer().resultInitials(), 0);
                Due.be("resultFinals()", new AmbiguityAnalyzer().resultFinals(), 0);
                Due.be("resultSuccessors(-1, 3)", new AmbiguityAnalyzer().resultSuccessors(-1, 3), 0);
            });
    }

    private static void orderOfErrors() {
        Sentences.description("all promises with several errors", "If several errors apply, the one that is listed first is returned.",
            () -> {
                String sixty = "1a2;1a2;1a2;1a2;1a2;1a2;1a2;1a2;1a2;1a2;1a2;1a2;1a2;1a2;1a2;";
                Refusal.is("append(31) to a full text", OUT_OF_RANGE, () -> {
                    AmbiguityAnalyzer x = Busy.withText(sixty.substring(0, 59));
                    Due.be("the 60th", x.append('1'), 60);
                    return x;
                }, x -> x.append(31));
                Refusal.is("appendLetter(3) to a full word", NO_SUCH_ELEMENT, () -> Busy.withWord("abcabcabcabcabcabcab"),
                    x -> x.appendLetter(3));
                Supplier<AmbiguityAnalyzer> many = Busy.with(3, EVERYTHING_GROWS);
                Refusal.is("pathsOfLength(61)", OUT_OF_RANGE, many, x -> x.pathsOfLength(61));
                Refusal.is("wordsOfLength(61)", OUT_OF_RANGE, many, x -> x.wordsOfLength(61));
                Refusal.is("averageBits(61)", OUT_OF_RANGE, many, x -> x.averageBits(61));
                Refusal.is("maximumAmbiguity()", NONE, many, AmbiguityAnalyzer::maximumAmbiguity);
                Refusal.is("witnessState(0) of none", NO_SUCH_ELEMENT, Busy::analyzer, x -> x.witnessState(0));
                Refusal.is("witnessLength(4) of none", NO_SUCH_ELEMENT, Busy.with(1, ""), x -> x.witnessLength(4));
                Refusal.is("witnessLetter(4, -1) of none", NO_SUCH_ELEMENT, Busy.with(1, ""), x -> x.witnessLetter(4, -1));
                Refusal.is("takeWitness(4) of none", NO_SUCH_ELEMENT, Busy.with(1, ""), x -> x.takeWitness(4));
                Refusal.is("setWeight(3, 101)", NO_SUCH_ELEMENT, Busy::analyzer, x -> x.setWeight(3, 101));
                Refusal.is("keepCounts(4, 31)", NO_SUCH_ELEMENT, many, x -> x.keepCounts(4, 31));
                Refusal.is("keepCounts(4, 30)", NO_SUCH_ELEMENT, many, x -> x.keepCounts(4, 30));
                Refusal.is("keepCounts(0, 31)", OUT_OF_RANGE, many, x -> x.keepCounts(0, 31));
                Refusal.is("useWord(4)", NO_SUCH_ELEMENT, Busy::analyzer, x -> x.useWord(4));
                Refusal.is("shelfElement(0, -1)", EMPTY_SHELF, Busy::analyzer, x -> x.shelfElement(0, -1));
                Refusal.is("shelfElement(4, -1)", NO_SUCH_ELEMENT, Busy::analyzer, x -> x.shelfElement(4, -1));
            });
    }

    private interface Replacing {
        void by(AmbiguityAnalyzer x);
    }

    private static AmbiguityAnalyzer everythingSet() {
        AmbiguityAnalyzer x = Due.analyzer(2, LOOP);
        x.save();
        for (int letter = 0; letter < 3; letter++) {
            x.setWeight(letter, 50 + letter);
        }
        Due.word(x, "cba");
        x.keepWord(1);
        x.keepCounts(3, 30);
        Due.be("build(1)", x.build(1), 4);
        Due.be("append('>')", x.append('>'), 1);
        return x;
    }

    private static void stays(String call, boolean weights, Replacing replacing) {
        AmbiguityAnalyzer x = everythingSet();
        replacing.by(x);
        for (int letter = 0; letter < 3; letter++) {
            Due.be(call + ", weight of " + letter, x.setWeight(letter, 1), weights ? 50 + letter : 1);
            Due.be(call + ", letter " + letter, x.wordLetter(letter), 2 - letter);
            Due.be(call + ", letter on the shelf", x.shelfElement(1, letter), 2 - letter);
        }
        Due.be(call + ", wordLength()", x.wordLength(), 3);
        Due.be(call + ", row on the shelf", x.shelfElement(3, 1), 1);
        Due.be(call + ", end of the row on the shelf", x.shelfElement(3, 31), NO_SUCH_ELEMENT);
        Due.be(call + ", empty shelf", x.shelfElement(0, 0), EMPTY_SHELF);
        Due.be(call + ", resultStateCount()", x.resultStateCount(), 4);
        Due.be(call + ", resultInitials()", x.resultInitials(), 1);
        Due.be(call + ", text", x.append('0'), 2);
        Due.be(call + ", parse()", x.parse(), 1);
        Due.be(call + ", restore()", x.restore(), 2);
        Due.be(call + ", what was saved", x.transitionCount(), 3);
    }

    private static void replacing() {
        Sentences.description("promises 2, 13 and 47", "Details. Replacing the automaton leaves the weights, the current word, the text, "
            + "the result and the shelves.", () -> {
                stays("reset(2)", true, x -> x.reset(2));
                stays("reset(6)", true, x -> x.reset(6));
                stays("reset(1)", true, x -> x.reset(1));
                stays("trim()", true, AmbiguityAnalyzer::trim);
                stays("trim() without useful states", true, x -> {
                    x.setFinal(0, false);
                    x.trim();
                });
                // Restoring is the one that brings its weights along.
                stays("restore()", false, AmbiguityAnalyzer::restore);
            });
    }

    private static void details() {
        Sentences.description("promises 36 to 41", "A construction without initial states has a result without states, for which no path "
            + "is accepted.", () -> {
                for (int construction = 0; construction < 2; construction++) {
                    AmbiguityAnalyzer x = Due.analyzer(2, "0!;1!;0a0;0a1");
                    Due.be("build(" + construction + ")", x.build(construction), 0);
                    Due.be("resultStateCount()", x.resultStateCount(), 0);
                    Due.be("resultInitials()", x.resultInitials(), 0);
                    Due.be("resultFinals()", x.resultFinals(), 0);
                    Due.be("resultAmbiguity() of the empty word", x.resultAmbiguity(), 0);
                    Due.word(x, "a");
                    Due.be("resultAmbiguity() of a", x.resultAmbiguity(), 0);
                }
            });
        Sentences.description("promises 31 to 35", "Light words are compared by weights first, then by lengths and letters, also if weights "
            + "are 0.", () -> {
                AmbiguityAnalyzer x = Due.analyzer(6, ">0;5!;0a5;0b1;1b2;2b5;0c3;3c5");
                lightest(x, "a", 1, 1, 1);
                lightest(x, "a", 0, 0, 0);
                lightest(x, "bbb", 1, 0, 1);
                lightest(x, "cc", 1, 0, 0);
                lightest(x, "a", 3, 1, 2);
                lightest(x, "bbb", 4, 1, 2);
                lightest(x, "cc", 100, 100, 0);
                lightest(x, "a", 100, 100, 100);
                AmbiguityAnalyzer y = Due.analyzer(4, ">0;3!;0b1;1a3;0a2;2b3;0c3;0a0;0b0;0c0");
                lightest(y, "c", 0, 0, 0);
                lightest(y, "ab", 0, 0, 1);
                lightest(y, "c", 1, 0, 1);
            });
        Sentences.description("promise 16", "The number of items of a text counts items that stand there twice, and items that the automaton "
            + "has already.", () -> {
                AmbiguityAnalyzer x = Due.analyzer(2, ">0;1!;0a1");
                Due.be("all there", Due.parsed(x, ">0;1!;0a1"), 3);
                Due.be("all twice", Due.parsed(x, ">1;>1;0!;0!;1a1;1a1"), 6);
                Due.be("transitionCount()", x.transitionCount(), 2);
            });
        Sentences.description("promise 16", "An empty text has the error position 0.", () -> {
            AmbiguityAnalyzer x = new AmbiguityAnalyzer();
            Due.be("parse() at first", x.parse(), -100);
            Due.be("parse() of 0!", Due.parsed(x, "0!"), 1);
            Due.be("parse() behind it", x.parse(), -100);
        });
        moreDetails();
    }

    private static void lightest(AmbiguityAnalyzer x, String word, int a, int b, int c) {
        x.setWeight(0, a);
        x.setWeight(1, b);
        x.setWeight(2, c);
        Due.same("the lightest for " + a + ", " + b + ", " + c, Due.witness(x, 3), word);
    }

    private static void moreDetails() {
        Sentences.description("promises 42 to 45", "A word that is put on a shelf replaces what the shelf held.", () -> {
            AmbiguityAnalyzer x = new AmbiguityAnalyzer();
            Due.word(x, "abcabcabcabcabcabcab");
            x.keepWord(0);
            x.keepCounts(1, 30);
            Due.word(x, "c");
            Due.be("keepWord(0) over a word", x.keepWord(0), 1);
            Due.be("keepWord(1) over a row", x.keepWord(1), 1);
            for (int shelf = 0; shelf < 2; shelf++) {
                Due.be("shelfElement(" + shelf + ", 0)", x.shelfElement(shelf, 0), 2);
                Due.be("shelfElement(" + shelf + ", 1)", x.shelfElement(shelf, 1), NO_SUCH_ELEMENT);
                x.clearWord();
                Due.be("useWord(" + shelf + ")", x.useWord(shelf), 1);
            }
        });
        Sentences.description("promise 14", "A transition that is drawn although it is there already counts as drawn.", () -> {
            AmbiguityAnalyzer x = Due.analyzer(6, "");
            Due.be("randomize(-1, 1)", x.randomize(-1, 1), 1);
            Due.be("randomize(-1, 1) again", x.randomize(-1, 1), 1);
            AmbiguityAnalyzer y = new AmbiguityAnalyzer();
            Due.be("randomize(1, 20) with room for 3", y.randomize(1, 20), 3);
            // With one state the first transition that seed 1 draws is 0a0.
            AmbiguityAnalyzer z = new AmbiguityAnalyzer();
            z.addTransition(0, 0, 0);
            Due.be("randomize(1, 1) of what is there", z.randomize(1, 1), 1);
        });
        Sentences.description("promises 21 to 23", "For the empty word there are as many accepting paths as states that are initial and "
            + "final.", () -> {
                String items = "0a1;1b2;2c3";
                for (int both = 0; both <= 6; both++) {
                    AmbiguityAnalyzer x = Due.analyzer(6, items);
                    Due.be("wordAmbiguity() with " + both, x.wordAmbiguity(), both);
                    Due.be("pathsOfLength(0) with " + both, x.pathsOfLength(0), both);
                    Due.be("wordsOfLength(0) with " + both, x.wordsOfLength(0), Math.min(1, both));
                    items += ";>" + Math.min(5, both) + ";" + Math.min(5, both) + "!";
                }
                Due.be("initial or final only", Due.analyzer(4, ">0;>1;2!;3!;0a2").wordAmbiguity(), 0);
            });
    }

    private static void constants() {
        constant("`NO_SUCH_ELEMENT = -1`: There is no such state, letter, witness, shelf, position or construction.", -1,
            NO_SUCH_ELEMENT, new AmbiguityAnalyzer().setFinal(1, true));
        constant("`OUT_OF_RANGE = -2`: An argument is out of range.", -2, OUT_OF_RANGE, new AmbiguityAnalyzer().reset(0));
        AmbiguityAnalyzer full = Due.analyzer(1, "");
        Due.word(full, "aaaaaaaaaaaaaaaaaaaa");
        constant("`FULL = -3`: There is no room for another letter or character.", -3, AmbiguityAnalyzer.FULL, full.appendLetter(0));
        constant("`NONE = -4`: There is no result, no witness or no saved state.", -4, NONE, new AmbiguityAnalyzer().restore());
        AmbiguityAnalyzer large = Due.analyzer(6, ">0;>1;>2;>3;>4;>5;0a1;1a2;2a3;3a4;4a5;5a0;0b1;1b0;2b2;3b3;4b4;5b5;0c0;1c0;2c2;3c3;4c4;5c5");
        constant("`TOO_LARGE = -5`: A construction or a set of counts is too large.", -5, AmbiguityAnalyzer.TOO_LARGE, large.build(1));
        constant("`OVERFLOW = -6`: A number is greater than the greatest long.", -6, AmbiguityAnalyzer.OVERFLOW,
            Due.analyzer(1, ">0;0!;0a0;0b0;0c0").pathsOfLength(60));
        constant("`EMPTY_SHELF = -7`: A shelf is empty.", -7, EMPTY_SHELF, new AmbiguityAnalyzer().useWord(3));
        AmbiguityAnalyzer row = Due.analyzer(1, "");
        row.keepCounts(2, 0);
        constant("`WRONG_TYPE = -8`: A shelf holds something else.", -8, AmbiguityAnalyzer.WRONG_TYPE, row.useWord(2));
    }

    private static void constant(String sentence, int due, int constant, long answer) {
        Sentences.description("the constants", sentence, () -> {
            Due.be("the constant", constant, due);
            Due.be("a call that answers it", answer, due);
        });
    }
}
