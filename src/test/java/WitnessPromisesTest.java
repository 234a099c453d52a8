/** Promises 30 to 35: witnesses and weights. */
public final class WitnessPromisesTest {
    private static final int NO_SUCH_ELEMENT = AmbiguityAnalyzer.NO_SUCH_ELEMENT;
    private static final int NONE = AmbiguityAnalyzer.NONE;
    private static final String ALL = ">0;>1;>2;>3;>4;>5;0!;1!;2!;3!;4!;5!";

    public static void main(String[] args) {
        promise30();
        noWitness();
        firstWords();
        longWitnesses();
        promise33();
        promises34And35();
        changesNothing();
        Due.end();
    }

    private static void promise30() {
        AmbiguityAnalyzer x = Due.analyzer(6, ">0;5!;0a0;0a1;0a3;3a3;1a1;1b2;2b2;2c5;3a5;5a5;5b5;4a4");
        Due.be("30: no loop state", x.witnessState(1), NONE);
        Due.be("30: the first pair", x.witnessState(2), 1);
        x.removeTransition(0, 0, 1);
        Due.be("30: the next pair by q", x.witnessState(2), 3);
        x.removeTransition(0, 0, 3);
        Due.be("30: no pair", x.witnessState(2), NONE);
        x.addTransition(0, 2, 3);
        Due.be("30: the next pair by p", x.witnessState(2), 8 * 3 + 5);
        x.addTransition(5, 0, 3);
        Due.be("30: the lowest loop state", x.witnessState(1), 3);
        Due.be("30: it has an order", x.witnessState(2), 8 * 3 + 5);
        for (int wrong : new int[] {-1, 0, 3, 4, Integer.MIN_VALUE, Integer.MAX_VALUE}) {
            Due.be("30: witness " + wrong, x.witnessState(wrong), NO_SUCH_ELEMENT);
        }
        Due.be("30: q is state 0", Due.analyzer(2, ">1;0!;1a1;1a0;0a0").witnessState(2), 8);
        Due.be("30: the last pair", Due.analyzer(6, ">5;4!;5c5;5c4;4c4").witnessState(2), 44);
        Due.be("30: loop state 0", Due.analyzer(2, ">0;0!;0a0;0a1;1a0").witnessState(1), 0);
    }

    private static void noWitness() {
        AmbiguityAnalyzer x = new AmbiguityAnalyzer();
        Due.word(x, "ab");
        for (int w = 0; w < 4; w++) {
            Due.be("31: none", x.witnessLength(w), NONE);
            Due.be("32: none", x.witnessLetter(w, 0), NONE);
            Due.be("33: none", x.takeWitness(w), NONE);
        }
        for (int wrong : new int[] {-1, 4, Integer.MIN_VALUE, Integer.MAX_VALUE}) {
            Due.be("31: witness " + wrong, x.witnessLength(wrong), NO_SUCH_ELEMENT);
            Due.be("32: witness " + wrong, x.witnessLetter(wrong, -1), NO_SUCH_ELEMENT);
            Due.be("33: witness " + wrong, x.takeWitness(wrong), NO_SUCH_ELEMENT);
        }
        Due.be("33: the word stays", x.wordLength(), 2);
        Due.be("35: none", x.lightestWeight(), NONE);
        AmbiguityAnalyzer empty = Due.analyzer(2, ">0;>1;0!;1!");
        Due.be("31: the empty word", empty.witnessLength(0), 0);
        Due.be("32: the empty word", empty.witnessLetter(0, 0), NONE);
        Due.word(empty, "a");
        Due.be("33: the empty word", empty.takeWitness(0), 0);
        Due.be("33: the word is empty", empty.wordLength(), 0);
        Due.be("35: the empty word", empty.lightestWeight(), 0);
    }

    private static void firstWords() {
        // The shorter word comes first, though c stands behind a.
        AmbiguityAnalyzer x = Due.analyzer(6, ">0;5!;0c1;0c2;1a5;2a5;0a3;0a4;3a1;4a2;3b5");
        Due.same("32: shorter words first", Due.witness(x, 0), "ca");
        // Both aab and aba have two paths.
        AmbiguityAnalyzer y = Due.analyzer(6, ">0;5!;0a1;0a2;1b3;2b3;3a5;1a4;4b5;2a4");
        Due.same("32: first of the same length", Due.witness(y, 0), "aab");
        AmbiguityAnalyzer loop = Due.analyzer(3, ">0;0!;0b1;0b2;1a0;2a0;1c0;0a0");
        Due.same("32: loop word", Due.witness(loop, 1), "ba");
        loop.addTransition(2, 2, 0);
        loop.removeTransition(2, 0, 0);
        Due.same("32: loop word with c", Due.witness(loop, 1), "bc");
        AmbiguityAnalyzer split = Due.analyzer(3, ">0;2!;0b0;0b2;2c2;2b1;1b2;0a0;1a0");
        Due.same("32: split word", Due.witness(split, 2), "bb");
        for (int i : new int[] {-1, 2, 3, 216, Integer.MIN_VALUE, Integer.MAX_VALUE}) {
            Due.be("32: position " + i, split.witnessLetter(2, i), NONE);
        }
    }

    private static void longWitnesses() {
        checkLong(ALL + ";0a1;1a2;2a1;2c5;3a4;3b2;4a5;4b0;4b4;4c4;5a3;5b3;5c1", 1, 21);
        checkLong(ALL + ";0b0;0c1;1c1;1c2;2a2;2a4;2b4;3a1;3b5;3c4;4c3;5b3;5b4;5c0;5c2", 1, 20);
        checkLong(ALL + ";0a2;0b0;0c2;1a1;1b2;1c5;2b1;3a2;3b5;3c0;3c2;4a4;4b3;5a5;5b4;5c1", 1, 22);
        checkLong(ALL + ";0b3;0c0;0c2;1a3;1c4;2a2;2a5;2b4;3a0;3c1;4b1;5a4;5b2;5b4;5c5", 2, 20);
        checkLong(ALL + ";0a1;0b0;0c0;1b3;1c1;1c3;2a3;2c3;2c4;3c5;4a0;4b3;4b4;4c3;5b2;5b5", 2, 24);
        checkLong(">4;0!;0a5;0b3;0b4;1a4;1c2;2a0;2b0;2b1;2c1;2c5;3b1;3c1;4a4;4b5;5a3;5b3", 0, 18);
    }

    /** Compares a long witness with the Oracle, and takes it if it fits. */
    private static void checkLong(String items, int witness, int length) {
        AmbiguityAnalyzer x = Due.analyzer(6, items);
        Oracle y = new Oracle();
        y.reset(6);
        for (String item : items.split(";")) {
            for (char c : item.toCharArray()) {
                y.append(c);
            }
            y.parse();
        }
        Due.word(x, "cab");
        Due.be("31: length of " + items, x.witnessLength(witness), length);
        for (int i = -1; i <= length; i++) {
            Due.be("32: letter " + i, x.witnessLetter(witness, i), y.witnessLetter(witness, i));
        }
        if (length > 20) {
            Due.be("33: too long", x.takeWitness(witness), AmbiguityAnalyzer.FULL);
            Due.be("33: the word stays", x.wordLength() * 1000 + x.wordLetter(0) * 100
                + x.wordLetter(1) * 10 + x.wordLetter(2), 3201);
        } else {
            Due.be("33: taken", x.takeWitness(witness), length);
            for (int i = 0; i < length; i++) {
                Due.be("33: letter " + i, x.wordLetter(i), y.witnessLetter(witness, i));
            }
        }
    }

    private static void promise33() {
        AmbiguityAnalyzer x = Due.analyzer(4, ">0;0a1;0a2;1b3;2b3;3!;3c3");
        Due.word(x, "cccccccccccccccccccc");
        Due.be("33: takeWitness(0)", x.takeWitness(0), 2);
        Due.be("33: wordLength()", x.wordLength(), 2);
        Due.be("33: wordLetter(0)", x.wordLetter(0), 0);
        Due.be("33: wordLetter(1)", x.wordLetter(1), 1);
        Due.be("33: wordLetter(2)", x.wordLetter(2), NO_SUCH_ELEMENT);
        Due.be("33: its ambiguity", x.wordAmbiguity(), 2);
        Due.be("17: it goes on", x.appendLetter(2), 3);
        Due.be("33: still ambiguous", x.wordAmbiguity(), 2);
        Due.be("33: a missing one", x.takeWitness(1), NONE);
        Due.be("33: the word stays", x.wordLength(), 3);
        Due.be("33: takeWitness(3)", x.takeWitness(3), 2);
    }

    private static void promises34And35() {
        AmbiguityAnalyzer x = Due.analyzer(6, ">0;5!;0a5;0b1;1b2;2b5;0c3;3c5");
        for (int letter = 0; letter < 3; letter++) {
            Due.be("34: 1 at first", x.setWeight(letter, 1), 1);
        }
        Due.be("35: lightestWeight()", x.lightestWeight(), 1);
        Due.be("34: setWeight(0, 100)", x.setWeight(0, 100), 1);
        Due.be("35: two letters c", x.lightestWeight(), 2);
        Due.same("32: cc", Due.witness(x, 3), "cc");
        Due.be("34: setWeight(1, 0)", x.setWeight(1, 0), 1);
        Due.same("32: bbb", Due.witness(x, 3), "bbb");
        Due.be("35: without weight", x.lightestWeight(), 0);
        Due.be("34: setWeight(2, 0)", x.setWeight(2, 0), 1);
        Due.same("32: the shorter one of the same weight", Due.witness(x, 3), "cc");
        Due.be("34: setWeight(0, 0)", x.setWeight(0, 0), 100);
        Due.same("32: the shortest one", Due.witness(x, 3), "a");
        for (int wrong : new int[] {-1, 101, Integer.MIN_VALUE, Integer.MAX_VALUE}) {
            Due.be("34: weight " + wrong, x.setWeight(0, wrong), AmbiguityAnalyzer.OUT_OF_RANGE);
        }
        for (int wrong : new int[] {-1, 3, Integer.MIN_VALUE, Integer.MAX_VALUE}) {
            Due.be("34: letter " + wrong, x.setWeight(wrong, 1), NO_SUCH_ELEMENT);
            Due.be("34: no letter comes first", x.setWeight(wrong, 101), NO_SUCH_ELEMENT);
        }
        Due.be("34: unchanged after errors", x.setWeight(0, 0), 0);
        AmbiguityAnalyzer ties = Due.analyzer(6, ">0;>1;5!;0b2;1a3;2a5;3c5;0c5");
        ties.setWeight(2, 50);
        ties.setWeight(0, 25);
        ties.setWeight(1, 25);
        Due.same("32: by letters at last", Due.witness(ties, 3), "c");
        ties.removeTransition(0, 2, 5);
        Due.same("32: lighter before first letters", Due.witness(ties, 3), "ba");
        ties.addTransition(3, 1, 5);
        Due.same("32: first letters", Due.witness(ties, 3), "ab");
        AmbiguityAnalyzer aside = Due.analyzer(6, ">1;5!;1b2;2a5;0a5");
        Due.same("32: a state aside does not count", Due.witness(aside, 3), "ba");
        AmbiguityAnalyzer heavy = Due.analyzer(6, ">0;5!;0a1;1a2;2a3;3a4;4a5;1b0;4c4");
        heavy.setWeight(0, 100);
        heavy.setWeight(1, 0);
        heavy.setWeight(2, 0);
        Due.be("35: 500", heavy.lightestWeight(), 500);
        Due.be("31: 5", heavy.witnessLength(3), 5);
        heavy.reset(1);
        Due.be("34: reset leaves the weights", heavy.setWeight(0, 1), 100);
    }

    private static void changesNothing() {
        AmbiguityAnalyzer x = Due.analyzer(3, ">0;0!;0a0;0a1;1a0;0b2;2a2");
        Due.word(x, "abc");
        int before = x.transitionCount() * 1000 + x.initialStates() * 100 + x.finalStates();
        for (int w = 0; w < 4; w++) {
            x.witnessLength(w);
            x.witnessLetter(w, 0);
            x.witnessState(w);
        }
        x.kind();
        x.degree();
        Due.be("31: the automaton stays", x.transitionCount() * 1000 + x.initialStates() * 100 + x.finalStates(), before);
        Due.be("31: the word stays", x.wordLength() * 10 + x.wordLetter(2), 32);
    }
}
