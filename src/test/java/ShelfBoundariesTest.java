import java.util.function.Supplier;

/** Promises 42 to 47, sentence by sentence, at the bounds that they name. */
public final class ShelfBoundariesTest {
    private static final int NO_SUCH_ELEMENT = AmbiguityAnalyzer.NO_SUCH_ELEMENT;
    private static final int OUT_OF_RANGE = AmbiguityAnalyzer.OUT_OF_RANGE;
    private static final int EMPTY_SHELF = AmbiguityAnalyzer.EMPTY_SHELF;
    private static final Supplier<AmbiguityAnalyzer> BUSY = Busy::analyzer;
    private static final String TWENTY_LETTERS = "abcabcabcabcabcabcab";
    private static final String LOOPS = ">0;0!;0a0;0b0";

    public static void main(String[] args) {
        promise42();
        promise43();
        countErrors();
        promise44();
        promise45();
        promise46();
        promise47();
        Sentences.endOfPromises(42, 47);
    }

    /** Each of the four shelves can be used, and no other is changed by it. */
    private static void usesShelves(String call, Refusal.WithInt answer, long due) {
        for (int shelf = 0; shelf < 4; shelf++) {
            AmbiguityAnalyzer x = new AmbiguityAnalyzer();
            Due.be(call.replace("?", "" + shelf), answer.on(x, shelf), due);
            for (int other = 0; other < 4; other++) {
                boolean empty = x.shelfElement(other, 0) == EMPTY_SHELF;
                Due.be("shelf " + other + " behind it", empty == (other != shelf));
            }
        }
    }

    private static void promise42() {
        Sentences.promise(42, "Puts a copy of the current word on a shelf.", () -> {
            AmbiguityAnalyzer x = new AmbiguityAnalyzer();
            Due.word(x, "cb");
            x.keepWord(2);
            x.appendLetter(0);
            Due.be("no third letter", x.shelfElement(2, 2), NO_SUCH_ELEMENT);
            x.clearWord();
            Due.word(x, "aa");
            Due.be("the first letter", x.shelfElement(2, 0), 2);
            Due.be("the second letter", x.shelfElement(2, 1), 1);
        });
        Sentences.promise(42, "`shelf`: the shelf, 0 to 3", () -> usesShelves("keepWord(?)", AmbiguityAnalyzer::keepWord, 0));
        Sentences.promise(42, "Returns the length of the word", () -> {
            AmbiguityAnalyzer x = new AmbiguityAnalyzer();
            Due.be("the empty word", x.keepWord(0), 0);
            for (int length = 1; length <= 20; length++) {
                x.appendLetter(length % 3);
                Due.be("keepWord(3)", x.keepWord(3), length);
            }
            Due.be("wordLength() stays", x.wordLength(), 20);
        });
        Sentences.promise(42, "NO_SUCH_ELEMENT if there is no such shelf.", () ->
            Refusal.outside("keepWord(?)", NO_SUCH_ELEMENT, BUSY, AmbiguityAnalyzer::keepWord, 0, 3));
    }

    private static void promise43() {
        Sentences.promise(43, "Puts a row on a shelf that has for each length from 0 to maxLength the number of accepting paths "
            + "of all words of this length.", () -> {
                AmbiguityAnalyzer x = Due.analyzer(1, LOOPS);
                Due.be("keepCounts(0, 30)", x.keepCounts(0, 30), 31);
                for (int length = 0; length <= 30; length++) {
                    Due.be("shelfElement(0, " + length + ")", x.shelfElement(0, length), 1L << length);
                }
                Due.be("shelfElement(0, 31)", x.shelfElement(0, 31), NO_SUCH_ELEMENT);
                x.reset(2);
                Due.be("the row stays", x.shelfElement(0, 30), 1L << 30);
            });
        Sentences.promise(43, "`shelf`: the shelf, 0 to 3", () ->
            usesShelves("keepCounts(?, 1)", (x, shelf) -> x.keepCounts(shelf, 1), 2));
        Sentences.promise(43, "`maxLength`: the greatest length, 0 to 30", () -> {
            AmbiguityAnalyzer x = Due.analyzer(1, LOOPS);
            Due.be("keepCounts(1, 0)", x.keepCounts(1, 0), 1);
            Due.be("shelfElement(1, 0)", x.shelfElement(1, 0), 1);
            Due.be("shelfElement(1, 1)", x.shelfElement(1, 1), NO_SUCH_ELEMENT);
            Due.be("keepCounts(1, 30)", x.keepCounts(1, 30), 31);
            Due.be("shelfElement(1, 30)", x.shelfElement(1, 30), 1L << 30);
        });
        Sentences.promise(43, "Returns the number of elements of the row", () -> {
            AmbiguityAnalyzer x = new AmbiguityAnalyzer();
            for (int maxLength = 0; maxLength <= 30; maxLength++) {
                Due.be("keepCounts(3, " + maxLength + ")", x.keepCounts(3, maxLength), maxLength + 1);
                Due.be("the last one", x.shelfElement(3, maxLength), 0);
                Due.be("no more", x.shelfElement(3, maxLength + 1), NO_SUCH_ELEMENT);
            }
        });
    }

    private static void countErrors() {
        Supplier<AmbiguityAnalyzer> greatest = Busy.with(4, CountBoundariesTest.EIGHT_PATHS);
        Supplier<AmbiguityAnalyzer> oneMore = () -> {
            AmbiguityAnalyzer x = greatest.get();
            x.setFinal(0, true);
            return x;
        };
        Sentences.promise(43, "NO_SUCH_ELEMENT if there is no such shelf", () -> {
            Refusal.outside("keepCounts(?, 3)", NO_SUCH_ELEMENT, BUSY, (x, shelf) -> x.keepCounts(shelf, 3), 0, 3);
            Refusal.outside("keepCounts(?, 31)", NO_SUCH_ELEMENT, oneMore, (x, shelf) -> x.keepCounts(shelf, 31), 0, 3);
            Refusal.outside("keepCounts(?, 30)", NO_SUCH_ELEMENT, oneMore, (x, shelf) -> x.keepCounts(shelf, 30), 0, 3);
        });
        Sentences.promise(43, "OUT_OF_RANGE if maxLength is out of range", () -> {
            for (int shelf = 0; shelf < 4; shelf++) {
                int s = shelf;
                Refusal.outside("keepCounts(" + s + ", ?)", OUT_OF_RANGE, BUSY, (x, length) -> x.keepCounts(s, length), 0, 30);
            }
            Refusal.is("too many paths and too long", OUT_OF_RANGE, oneMore, x -> x.keepCounts(0, 31));
        });
        Sentences.promise(43, "OVERFLOW if one of the numbers is greater than the greatest long.", () -> {
            AmbiguityAnalyzer x = greatest.get();
            Due.be("keepCounts(0, 21)", x.keepCounts(0, 21), 22);
            Due.be("the greatest long", x.shelfElement(0, 21), Long.MAX_VALUE);
            for (int shelf = 0; shelf < 4; shelf++) {
                int s = shelf;
                Refusal.each("keepCounts(" + s + ", ?)", AmbiguityAnalyzer.OVERFLOW, oneMore, (y, length) -> y.keepCounts(s, length),
                    21, 22, 30);
            }
            AmbiguityAnalyzer y = oneMore.get();
            Due.be("keepCounts(0, 20)", y.keepCounts(0, 20), 21);
            Due.be("8 to the 20th", y.shelfElement(0, 20), 1L << 60);
            Due.be("keepCounts(0, 22)", greatest.get().keepCounts(0, 22), AmbiguityAnalyzer.OVERFLOW);
        });
    }

    private static void promise44() {
        Sentences.promise(44, "Replaces the current word by the word on a shelf.", () -> {
            AmbiguityAnalyzer x = Busy.withWord(TWENTY_LETTERS);
            Due.be("useWord(1)", x.useWord(1), 3);
            Due.same("the state behind it", Observed.all(x), Observed.all(Busy.withWord("abc")));
            AmbiguityAnalyzer y = Busy.withWord(TWENTY_LETTERS);
            Due.be("useWord(3)", y.useWord(3), 0);
            Due.same("the state behind it", Observed.all(y), Observed.all(Busy.withWord("")));
        });
        Sentences.promise(44, "`shelf`: the shelf, 0 to 3", () -> {
            AmbiguityAnalyzer x = new AmbiguityAnalyzer();
            for (int shelf = 0; shelf < 4; shelf++) {
                x.appendLetter(0);
                x.keepWord(shelf);
            }
            for (int shelf = 3; shelf >= 0; shelf--) {
                Due.be("useWord(" + shelf + ")", x.useWord(shelf), shelf + 1);
                Due.be("wordLength()", x.wordLength(), shelf + 1);
            }
        });
        Sentences.promise(44, "Returns the new length of the word", () -> {
            AmbiguityAnalyzer x = new AmbiguityAnalyzer();
            x.keepWord(0);
            Due.word(x, TWENTY_LETTERS);
            x.keepWord(1);
            Due.be("of the empty word", x.useWord(0), 0);
            Due.be("of 20 letters", x.useWord(1), 20);
            Due.be("the last letter", x.wordLetter(19), 1);
        });
        Sentences.promise(44, "NO_SUCH_ELEMENT if there is no such shelf", () ->
            Refusal.outside("useWord(?)", NO_SUCH_ELEMENT, BUSY, AmbiguityAnalyzer::useWord, 0, 3));
        Sentences.promise(44, "EMPTY_SHELF if it is empty", () -> {
            Refusal.is("useWord(0)", EMPTY_SHELF, BUSY, x -> x.useWord(0));
            Due.be("the empty word is a word", Busy.analyzer().useWord(3), 0);
            Refusal.each("useWord(?) at first", EMPTY_SHELF, AmbiguityAnalyzer::new, AmbiguityAnalyzer::useWord, 0, 1, 2, 3);
        });
        Sentences.promise(44, "WRONG_TYPE if it holds a row of counts.", () -> {
            Refusal.is("useWord(2)", AmbiguityAnalyzer.WRONG_TYPE, BUSY, x -> x.useWord(2));
            Refusal.is("useWord(3) of one count", AmbiguityAnalyzer.WRONG_TYPE, () -> {
                AmbiguityAnalyzer x = Busy.analyzer();
                Due.be("keepCounts(3, 0)", x.keepCounts(3, 0), 1);
                return x;
            }, x -> x.useWord(3));
        });
    }

    private static void promise45() {
        Sentences.promise(45, "Returns a letter of the word or an element of the row on a shelf.", () -> {
            AmbiguityAnalyzer x = Due.analyzer(1, LOOPS);
            Due.word(x, "cb");
            x.keepWord(0);
            x.keepCounts(1, 2);
            Due.be("a letter", x.shelfElement(0, 1), 1);
            Due.be("an element", x.shelfElement(1, 2), 4);
        });
        Sentences.promise(45, "`shelf`: the shelf, 0 to 3", () -> {
            AmbiguityAnalyzer x = Busy.analyzer();
            Due.be("shelfElement(0, 0)", x.shelfElement(0, 0), EMPTY_SHELF);
            Due.be("shelfElement(1, 2)", x.shelfElement(1, 2), 2);
            Due.be("shelfElement(2, 0)", x.shelfElement(2, 0), 1);
            Due.be("shelfElement(3, 0)", x.shelfElement(3, 0), NO_SUCH_ELEMENT);
        });
        Sentences.promise(45, "`i`: the position, from 0", () -> {
            AmbiguityAnalyzer x = Busy.analyzer();
            for (int i = 0; i < 3; i++) {
                Due.be("shelfElement(1, " + i + ")", x.shelfElement(1, i), i);
            }
            Due.be("shelfElement(1, 3)", x.shelfElement(1, 3), NO_SUCH_ELEMENT);
            Due.be("shelfElement(1, -1)", x.shelfElement(1, -1), NO_SUCH_ELEMENT);
        });
        Sentences.promise(45, "Returns the letter or the element", () -> {
            AmbiguityAnalyzer x = Due.analyzer(4, CountBoundariesTest.EIGHT_PATHS);
            Due.word(x, TWENTY_LETTERS);
            x.keepWord(0);
            Due.be("the last of 20 letters", x.shelfElement(0, 19), 1);
            Due.be("behind it", x.shelfElement(0, 20), NO_SUCH_ELEMENT);
            x.keepCounts(0, 21);
            Due.be("a number in place of the letter", x.shelfElement(0, 19), (1L << 57) - 1);
            Due.be("the greatest long", x.shelfElement(0, 21), Long.MAX_VALUE);
        });
        shelfElementErrors();
    }

    private static void shelfElementErrors() {
        // The same code stands for the shelf and for the position; between them comes the empty shelf.
        Sentences.promise(45, "NO_SUCH_ELEMENT if there is no such shelf", () -> {
            Refusal.outside("shelfElement(?, 0)", NO_SUCH_ELEMENT, BUSY, (x, shelf) -> x.shelfElement(shelf, 0), 0, 3);
            Refusal.outside("shelfElement(?, -1)", NO_SUCH_ELEMENT, BUSY, (x, shelf) -> x.shelfElement(shelf, -1), 0, 3);
        });
        Sentences.promise(45, "EMPTY_SHELF if it is empty", () -> {
            Refusal.each("shelfElement(0, ?)", EMPTY_SHELF, BUSY, (x, i) -> x.shelfElement(0, i), 0, -1, 31, Integer.MIN_VALUE);
            Refusal.each("shelfElement(?, 0) at first", EMPTY_SHELF, AmbiguityAnalyzer::new, (x, shelf) -> x.shelfElement(shelf, 0),
                0, 1, 2, 3);
        });
        Sentences.promise(45, "NO_SUCH_ELEMENT if there is no such position.", () -> {
            Refusal.outside("shelfElement(1, ?)", NO_SUCH_ELEMENT, BUSY, (x, i) -> x.shelfElement(1, i), 0, 2);
            Refusal.outside("shelfElement(2, ?)", NO_SUCH_ELEMENT, BUSY, (x, i) -> x.shelfElement(2, i), 0, 3);
            Refusal.each("shelfElement(3, ?)", NO_SUCH_ELEMENT, BUSY, (x, i) -> x.shelfElement(3, i), -1, 0, 1, 30, 31);
            Refusal.outside("shelfElement(0, ?) of 31", NO_SUCH_ELEMENT, () -> {
                AmbiguityAnalyzer x = Busy.analyzer();
                Due.be("keepCounts(0, 30)", x.keepCounts(0, 30), 31);
                return x;
            }, (x, i) -> x.shelfElement(0, i), 0, 30);
        });
    }

    private static void promise46() {
        Sentences.promise(46, "Saves the automaton and the weights, in place of what was saved before.", () -> {
            AmbiguityAnalyzer x = Busy.analyzer();
            String automaton = Observed.automaton(x);
            Due.be("save()", x.save(), 6);
            x.reset(1);
            x.setWeight(0, 1);
            x.setWeight(1, 1);
            x.setWeight(2, 1);
            Due.be("restore()", x.restore(), 6);
            Due.same("the automaton", Observed.automaton(x), automaton);
            Due.be("the weight of a", x.setWeight(0, 1), 5);
            Due.be("the weight of b", x.setWeight(1, 1), 100);
            Due.be("the weight of c", x.setWeight(2, 1), 0);
        });
        Sentences.promise(46, "Returns the number of states.", () -> {
            AmbiguityAnalyzer x = new AmbiguityAnalyzer();
            Due.be("save() at first", x.save(), 1);
            for (int states = 1; states <= 6; states++) {
                x.reset(states);
                Due.be("save()", x.save(), states);
            }
        });
    }

    private static void promise47() {
        Sentences.promise(47, "Restores the automaton and the weights that were saved last.", () -> {
            AmbiguityAnalyzer x = Due.analyzer(6, ">0;>5;0!;5!;0a5;5c0");
            x.setWeight(2, 100);
            String automaton = Observed.automaton(x);
            x.save();
            x.reset(6);
            Due.fill(x, ">1;2!;3b4");
            x.setWeight(2, 0);
            Due.be("restore()", x.restore(), 6);
            Due.same("the automaton", Observed.automaton(x), automaton);
            Due.be("the weight of c", x.setWeight(2, 0), 100);
            Due.be("the weight of a", x.setWeight(0, 1), 1);
        });
        Sentences.promise(47, "They stay saved.", () -> {
            AmbiguityAnalyzer x = Due.analyzer(2, ">0;1!;0b1;1c1");
            x.setWeight(0, 0);
            String automaton = Observed.automaton(x);
            x.save();
            for (int i = 0; i < 3; i++) {
                Due.be("restore()", x.restore(), 2);
                Due.same("the automaton", Observed.automaton(x), automaton);
                Due.be("the weight of a", x.setWeight(0, 100), 0);
                x.removeTransition(0, 1, 1);
                x.setInitial(1, true);
                x.setFinal(0, true);
                x.addTransition(0, 0, 0);
                x.trim();
            }
        });
        Sentences.promise(47, "Returns the number of states", () -> {
            AmbiguityAnalyzer x = new AmbiguityAnalyzer();
            for (int states = 6; states >= 1; states--) {
                x.reset(states);
                x.save();
                x.reset(7 - states);
                Due.be("restore()", x.restore(), states);
                Due.be("stateCount()", x.stateCount(), states);
            }
        });
        Sentences.promise(47, "NONE if nothing was saved.", () -> {
            Supplier<AmbiguityAnalyzer> unsaved = () -> {
                AmbiguityAnalyzer x = Due.analyzer(3, ">0;2!;0a1;1b2");
                x.setWeight(1, 7);
                return x;
            };
            Refusal.is("restore()", AmbiguityAnalyzer.NONE, unsaved, AmbiguityAnalyzer::restore);
            Refusal.is("restore() at first", AmbiguityAnalyzer.NONE, AmbiguityAnalyzer::new, AmbiguityAnalyzer::restore);
            AmbiguityAnalyzer x = new AmbiguityAnalyzer();
            x.save();
            Due.be("what is there at first can be saved", x.restore(), 1);
        });
    }
}
