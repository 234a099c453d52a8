import java.util.function.Supplier;

/** Promises 30 to 35, sentence by sentence, at the bounds that they name. */
public final class WitnessBoundariesTest {
    private static final int NO_SUCH_ELEMENT = AmbiguityAnalyzer.NO_SUCH_ELEMENT;
    private static final int OUT_OF_RANGE = AmbiguityAnalyzer.OUT_OF_RANGE;
    private static final int NONE = AmbiguityAnalyzer.NONE;
    private static final Supplier<AmbiguityAnalyzer> BUSY = Busy::analyzer;

    /** One automaton with all four witnesses: a, ab, a and the empty word. */
    private static final String FOUR = ">0;0!;0a0;0a1;1b0;0b0;1a1;1!";
    private static final String LOOP = ">0;0!;0a0;0a1;1a0";
    private static final String SPLIT = ">0;1!;0a0;0a1;1a1";
    private static final String ALL = ">0;>1;>2;>3;>4;>5;0!;1!;2!;3!;4!;5!;";
    /** Automata whose witness has exactly 20 letters, and such whose witness has 21. */
    private static final String[] TWENTY = {
        ">1;0!;0c3;1a3;2a0;2b0;2c1;2c5;3a4;4a5;4c1;5a2;5b4;5c2",
        ALL + "0a2;1c5;2c1;3a5;3c0;3c2;4c3;5a2;5a3;5b5;5c4",
        ALL + "0c5;1b0;1c0;2a0;2a5;3a3;3c1;4a4;4c2;5a3;5b1;5c4"
    };
    private static final String[] TWENTY_ONE = {
        ">5;0!;0a3;0c0;0c1;1a4;2a0;2c2;3a1;3c3;4a5;5a2;5c3",
        ALL + "0a3;0b3;1a0;1b3;1b4;1c4;2a4;3a5;4a1;4b0;5a2;5c5",
        ALL + "0b3;1a5;2a2;2b4;2c2;3a1;3b2;4a3;5a3;5b0;5b3;5c2"
    };
    private static final String LAST = ">5;4!;5c5;5c4;4c4";

    public static void main(String[] args) {
        promise30();
        promise31();
        promise32();
        promise33();
        promise34();
        promise35();
        Sentences.endOfPromises(30, 35);
    }

    private static void promise30() {
        Sentences.promise(30, "Returns the states to which a witness belongs.", () -> {
            AmbiguityAnalyzer x = Due.analyzer(6, ">5;3!;5a5;5a4;4a5;4b3;3b3;4b4");
            Due.be("witnessState(1)", x.witnessState(1), 4);
            Due.be("witnessState(2)", x.witnessState(2), 8 * 4 + 3);
        });
        Sentences.promise(30, "`witness`: 1 for the lowest loop state, 2 for the first split pair", () -> {
            AmbiguityAnalyzer x = Due.analyzer(2, FOUR);
            Due.be("witnessState(1)", x.witnessState(1), 0);
            Due.be("witnessState(2)", x.witnessState(2), 1);
            Due.be("witnessState(0)", x.witnessState(0), NO_SUCH_ELEMENT);
            Due.be("witnessState(3)", x.witnessState(3), NO_SUCH_ELEMENT);
        });
        Sentences.promise(30, "Returns the loop state, or 8 * p + q for the split pair", () -> {
            Due.be("loop state 0", Due.analyzer(6, LOOP).witnessState(1), 0);
            Due.be("loop state 5", Due.analyzer(6, ">5;5!;5a5;5b4;4b4;4a5;5b5").witnessState(1), 4);
            Due.be("only loop state 5", Due.analyzer(6, ">5;4!;5c4;4b3;3c5;5c3;3b5;4c5").witnessState(1), 3);
            Due.be("pair 0, 1", Due.analyzer(2, SPLIT).witnessState(2), 1);
            Due.be("pair 0, 5", Due.analyzer(6, ">0;5!;0c0;0c5;5c5").witnessState(2), 5);
            Due.be("pair 1, 0", Due.analyzer(2, ">1;0!;1a1;1a0;0a0").witnessState(2), 8);
            Due.be("pair 5, 0", Due.analyzer(6, ">5;0!;5c5;5c0;0c0").witnessState(2), 40);
            Due.be("pair 5, 4", Due.analyzer(6, LAST).witnessState(2), 44);
        });
        Sentences.promise(30, "NO_SUCH_ELEMENT if witness is neither 1 nor 2", () -> {
            Refusal.outside("witnessState(?)", NO_SUCH_ELEMENT, Busy.with(2, FOUR), AmbiguityAnalyzer::witnessState, 1, 2);
            Refusal.each("witnessState(?)", NO_SUCH_ELEMENT, BUSY, AmbiguityAnalyzer::witnessState, -1, 0, 3, 4);
        });
        Sentences.promise(30, "NONE if there is no loop state or no split pair.", () -> {
            Refusal.is("no loop state", NONE, Busy.with(2, SPLIT), x -> x.witnessState(1));
            Due.be("but a split pair", Due.analyzer(2, SPLIT).witnessState(2), 1);
            Refusal.each("nothing: witnessState(?)", NONE, Busy.with(1, ""), AmbiguityAnalyzer::witnessState, 1, 2);
            Refusal.each("of no use: witnessState(?)", NONE, Busy.with(2, ">0;0a0;0a1;1a0;1a1"),
                AmbiguityAnalyzer::witnessState, 1, 2);
            Refusal.is("no split pair", NONE, Busy.with(4, ">0;3!;0a1;0a2;1a3;2a3"), x -> x.witnessState(2));
        });
    }

    private static void promise31() {
        Sentences.promise(31, "Returns the length of a witness.", () -> {
            AmbiguityAnalyzer x = Due.analyzer(6, ">0;5!;0a1;0a2;1b3;2b3;3c5;5a5;5a4;4a5;0c5");
            Due.be("witnessLength(0)", x.witnessLength(0), 3);
            Due.be("witnessLength(1)", x.witnessLength(1), 4);
            Due.be("witnessLength(3)", x.witnessLength(3), 1);
        });
        Sentences.promise(31, "`witness`: the witness, 0 to 3", () -> {
            AmbiguityAnalyzer x = Due.analyzer(2, FOUR);
            int[] lengths = {NO_SUCH_ELEMENT, 1, 2, 1, 0, NO_SUCH_ELEMENT};
            for (int witness = -1; witness <= 4; witness++) {
                Due.be("witnessLength(" + witness + ")", x.witnessLength(witness), lengths[witness + 1]);
            }
        });
        Sentences.promise(31, "Returns the number of letters", () -> {
            Due.be("the empty word", Due.analyzer(2, ">0;>1;0!;1!").witnessLength(0), 0);
            Due.be("the empty word, the lightest", Due.analyzer(1, ">0;0!;0a0").witnessLength(3), 0);
            Due.be("the lightest of five letters", Due.analyzer(6, ">0;5!;0a1;1a2;2a3;3a4;4a5").witnessLength(3), 5);
            Due.be("a split word of one letter", Due.analyzer(6, LAST).witnessLength(2), 1);
            Due.be("the longest known", Due.analyzer(6, ALL + "0a3;0a5;0b2;0c1;0c4;1b3;2a0;2b1;2c5;3a1;3b4;4a4;4b5;5a2;5c1")
                .witnessLength(2), 30);
        });
        Sentences.promise(31, "NO_SUCH_ELEMENT if there is no such witness", () -> {
            Refusal.outside("witnessLength(?)", NO_SUCH_ELEMENT, Busy.with(2, FOUR), AmbiguityAnalyzer::witnessLength, 0, 3);
            Refusal.outside("witnessLength(?)", NO_SUCH_ELEMENT, BUSY, AmbiguityAnalyzer::witnessLength, 0, 3);
        });
        Sentences.promise(31, "NONE if there is no such word.", () -> {
            Refusal.each("nothing: witnessLength(?)", NONE, Busy.with(1, ""), AmbiguityAnalyzer::witnessLength, 0, 1, 2, 3);
            Refusal.each("unambiguous: witnessLength(?)", NONE, Busy.with(1, ">0;0!;0a0"),
                AmbiguityAnalyzer::witnessLength, 0, 1, 2);
            Refusal.is("no loop state", NONE, Busy.with(2, SPLIT), x -> x.witnessLength(1));
            Refusal.each("kind 1: witnessLength(?)", NONE, Busy.with(2, ">0;>1;0!;1!"), AmbiguityAnalyzer::witnessLength, 1, 2);
        });
    }

    private static void promise32() {
        Sentences.promise(32, "Returns a letter of a witness.", () ->
            Due.same("witness 0", Due.witness(Due.analyzer(6, ">0;5!;0a1;0a2;1b3;2b3;3c5"), 0), "abc"));
        Sentences.promise(32, "`witness`: the witness, 0 to 3", () -> {
            AmbiguityAnalyzer x = Due.analyzer(3, ">2;0!;2c0;0a0;0b0;0b1;1a0;1b1;1a1;2c1");
            int[] letters = {NO_SUCH_ELEMENT, 2, 1, 1, 2, NO_SUCH_ELEMENT};
            for (int witness = -1; witness <= 4; witness++) {
                Due.be("witnessLetter(" + witness + ", 0)", x.witnessLetter(witness, 0), letters[witness + 1]);
            }
        });
        Sentences.promise(32, "`i`: the position, from 0", () -> {
            AmbiguityAnalyzer x = Due.analyzer(2, ">0;1!;0c1");
            Due.be("witnessLetter(3, 0)", x.witnessLetter(3, 0), 2);
            Due.be("witnessLetter(3, 1)", x.witnessLetter(3, 1), NONE);
            Due.be("witnessLetter(3, -1)", x.witnessLetter(3, -1), NONE);
        });
        Sentences.promise(32, "Returns the letter", () -> {
            AmbiguityAnalyzer x = Due.analyzer(6, ">0;5!;0c1;1b2;2a3;3c4;4b5");
            int[] letters = {2, 1, 0, 2, 1};
            for (int i = 0; i < 5; i++) {
                Due.be("witnessLetter(3, " + i + ")", x.witnessLetter(3, i), letters[i]);
            }
        });
        Sentences.promise(32, "NO_SUCH_ELEMENT if there is no such witness", () -> {
            Refusal.outside("witnessLetter(?, 0)", NO_SUCH_ELEMENT, Busy.with(2, FOUR), (x, w) -> x.witnessLetter(w, 0), 0, 3);
            Refusal.outside("witnessLetter(?, -1)", NO_SUCH_ELEMENT, BUSY, (x, w) -> x.witnessLetter(w, -1), 0, 3);
        });
        Sentences.promise(32, "NONE if there is no such word or no such position.", () -> {
            Refusal.each("nothing: witnessLetter(?, 0)", NONE, Busy.with(1, ""), (x, w) -> x.witnessLetter(w, 0), 0, 1, 2, 3);
            Supplier<AmbiguityAnalyzer> five = Busy.with(6, ">0;5!;0c1;1b2;2a3;3c4;4b5");
            Refusal.outside("witnessLetter(3, ?) of five", NONE, five, (x, i) -> x.witnessLetter(3, i), 0, 4);
            Refusal.each("the empty word: witnessLetter(3, ?)", NONE, Busy.with(2, FOUR), (x, i) -> x.witnessLetter(3, i), -1, 0, 1);
            for (int witness = 0; witness < 3; witness++) {
                int w = witness;
                Supplier<AmbiguityAnalyzer> long21 = Busy.with(6, TWENTY_ONE[w]);
                Due.be("the 21st letter is there", long21.get().witnessLetter(w, 20) >= 0);
                Refusal.outside("witnessLetter(" + w + ", ?)", NONE, long21, (x, i) -> x.witnessLetter(w, i), 0, 20);
            }
        });
    }

    private static void promise33() {
        Sentences.promise(33, "Replaces the current word by a witness.", () -> {
            Supplier<AmbiguityAnalyzer> made = Busy.with(6, ">0;5!;0a1;0a2;1b3;2b3;3c5");
            AmbiguityAnalyzer x = made.get();
            Due.be("takeWitness(0)", x.takeWitness(0), 3);
            AmbiguityAnalyzer y = made.get();
            Due.word(y, "abc");
            Due.same("the state behind it", Observed.all(x), Observed.all(y));
        });
        Sentences.promise(33, "`witness`: the witness, 0 to 3", () -> {
            AmbiguityAnalyzer x = Due.analyzer(2, FOUR);
            int[] lengths = {NO_SUCH_ELEMENT, 1, 2, 1, 0, NO_SUCH_ELEMENT};
            for (int witness = -1; witness <= 4; witness++) {
                Due.be("takeWitness(" + witness + ")", x.takeWitness(witness), lengths[witness + 1]);
            }
        });
        Sentences.promise(33, "Returns the new length of the word", () -> {
            AmbiguityAnalyzer x = Due.analyzer(2, FOUR);
            Due.word(x, "abcabcabcabcabcabcab");
            for (int witness = 0; witness < 4; witness++) {
                int length = x.takeWitness(witness);
                Due.be("wordLength()", x.wordLength(), length);
            }
            Due.be("the empty word", x.wordLength(), 0);
        });
        Sentences.promise(33, "NO_SUCH_ELEMENT if there is no such witness", () -> {
            Refusal.outside("takeWitness(?)", NO_SUCH_ELEMENT, Busy.with(2, FOUR), AmbiguityAnalyzer::takeWitness, 0, 3);
            Refusal.outside("takeWitness(?)", NO_SUCH_ELEMENT, BUSY, AmbiguityAnalyzer::takeWitness, 0, 3);
        });
        Sentences.promise(33, "NONE if there is no such word", () -> {
            Refusal.each("nothing: takeWitness(?)", NONE, Busy.with(1, ""), AmbiguityAnalyzer::takeWitness, 0, 1, 2, 3);
            Refusal.each("kind 1: takeWitness(?)", NONE, Busy.with(2, ">0;>1;0!;1!"), AmbiguityAnalyzer::takeWitness, 1, 2);
        });
        Sentences.promise(33, "FULL if it has more than 20 letters.", () -> {
            for (int witness = 0; witness < 3; witness++) {
                twentyLetters(witness);
                int w = witness;
                Supplier<AmbiguityAnalyzer> long21 = Busy.with(6, TWENTY_ONE[w]);
                Due.be("witnessLength(" + w + ")", long21.get().witnessLength(w), 21);
                Refusal.is("takeWitness(" + w + ") of 21", AmbiguityAnalyzer.FULL, long21, x -> x.takeWitness(w));
            }
        });
    }

    private static void twentyLetters(int witness) {
        AmbiguityAnalyzer x = Due.analyzer(6, TWENTY[witness]);
        String letters = Due.witness(x, witness);
        Due.be("takeWitness(" + witness + ")", x.takeWitness(witness), 20);
        for (int i = 0; i < 20; i++) {
            Due.be("wordLetter(" + i + ")", x.wordLetter(i), letters.charAt(i) - 'a');
        }
        Due.be("wordLetter(20)", x.wordLetter(20), NO_SUCH_ELEMENT);
        Due.be("appendLetter(0)", x.appendLetter(0), AmbiguityAnalyzer.FULL);
    }

    private static void promise34() {
        Sentences.promise(34, "Sets the weight of a letter.", () -> {
            AmbiguityAnalyzer x = Due.analyzer(2, ">0;1!;0c1");
            x.setWeight(2, 63);
            Due.be("the weight of c", x.lightestWeight(), 63);
            Due.be("the weight of a", x.setWeight(0, 1), 1);
            Due.be("the weight of b", x.setWeight(1, 1), 1);
        });
        Sentences.promise(34, "All weights are 1 at first.", () -> {
            for (int letter = 0; letter < 3; letter++) {
                Due.be("setWeight(" + letter + ", 5)", new AmbiguityAnalyzer().setWeight(letter, 5), 1);
            }
            Due.be("lightestWeight()", Due.analyzer(4, ">0;3!;0a1;1b2;2c3").lightestWeight(), 3);
        });
        Sentences.promise(34, "`letter`: the letter, 0 to 2", () -> {
            AmbiguityAnalyzer x = Due.analyzer(4, ">0;3!;0a1;1b2;2c3");
            for (int letter = 0; letter < 3; letter++) {
                Due.be("setWeight(" + letter + ")", x.setWeight(letter, 10 + letter), 1);
            }
            Due.be("lightestWeight()", x.lightestWeight(), 33);
        });
        Sentences.promise(34, "`weight`: the weight, 0 to 100", () -> {
            AmbiguityAnalyzer x = Due.analyzer(2, ">0;1!;0b1");
            Due.be("setWeight(1, 0)", x.setWeight(1, 0), 1);
            Due.be("lightestWeight()", x.lightestWeight(), 0);
            Due.be("setWeight(1, 100)", x.setWeight(1, 100), 0);
            Due.be("lightestWeight()", x.lightestWeight(), 100);
        });
        Sentences.promise(34, "Returns the previous weight", () -> {
            AmbiguityAnalyzer x = new AmbiguityAnalyzer();
            int previous = 1;
            for (int weight : new int[] {0, 0, 100, 100, 1, 99}) {
                Due.be("setWeight(0, " + weight + ")", x.setWeight(0, weight), previous);
                previous = weight;
            }
        });
        Sentences.promise(34, "NO_SUCH_ELEMENT if there is no such letter", () -> {
            Refusal.outside("setWeight(?, 3)", NO_SUCH_ELEMENT, BUSY, (x, letter) -> x.setWeight(letter, 3), 0, 2);
            Refusal.outside("setWeight(?, 101)", NO_SUCH_ELEMENT, BUSY, (x, letter) -> x.setWeight(letter, 101), 0, 2);
        });
        Sentences.promise(34, "OUT_OF_RANGE if weight is out of range.", () -> {
            for (int letter = 0; letter < 3; letter++) {
                int a = letter;
                Refusal.outside("setWeight(" + a + ", ?)", OUT_OF_RANGE, BUSY, (x, weight) -> x.setWeight(a, weight), 0, 100);
            }
        });
    }

    private static void promise35() {
        Sentences.promise(35, "Returns the sum of the weights of the letters of witness 3.", () -> {
            AmbiguityAnalyzer x = Due.analyzer(6, ">0;5!;0a1;1b2;2c5;0a3;3a4;4a5");
            x.setWeight(0, 30);
            x.setWeight(1, 29);
            x.setWeight(2, 30);
            Due.be("abc before aaa", x.lightestWeight(), 89);
            x.setWeight(1, 31);
            Due.be("aaa before abc", x.lightestWeight(), 90);
        });
        Sentences.promise(35, "Returns the sum", () -> {
            Due.be("of the empty word", Due.analyzer(1, ">0;0!;0a0").lightestWeight(), 0);
            AmbiguityAnalyzer x = Due.analyzer(6, ">0;5!;0c1;1c2;2c3;3c4;4c5;0a0;1b0");
            x.setWeight(2, 100);
            Due.be("of five of the heaviest", x.lightestWeight(), 500);
            x.setWeight(2, 0);
            Due.be("of five without weight", x.lightestWeight(), 0);
        });
        Sentences.promise(35, "NONE if no word is accepted.", () -> {
            Refusal.is("lightestWeight() of nothing", NONE, Busy.with(1, ""), AmbiguityAnalyzer::lightestWeight);
            Refusal.is("without a path", NONE, Busy.with(2, ">0;1!;1a0;0b0"), AmbiguityAnalyzer::lightestWeight);
            Due.be("lightestWeight() of one word", Due.analyzer(2, ">0;1!;0b1").lightestWeight(), 1);
        });
    }
}
