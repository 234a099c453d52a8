/** Promises 15 to 21: the text and the current word. */
public final class TextAndWordPromisesTest {
    public static void main(String[] args) {
        promise15();
        promise16();
        parseErrors();
        promises17To20();
        promise21();
        Due.end();
    }

    private static void promise15() {
        AmbiguityAnalyzer x = new AmbiguityAnalyzer();
        int[] wrong = {31, 127, -1, 0, 255, Integer.MIN_VALUE, Integer.MAX_VALUE};
        for (int c : wrong) {
            Due.be("15: append(" + c + ")", x.append(c), AmbiguityAnalyzer.OUT_OF_RANGE);
        }
        for (int i = 0; i < 60; i++) {
            Due.be("15: append", x.append(i % 2 == 0 ? 32 : 126), i + 1);
        }
        Due.be("15: the 61st", x.append(32), AmbiguityAnalyzer.FULL);
        for (int c : wrong) {
            Due.be("15: out of range comes first", x.append(c), AmbiguityAnalyzer.OUT_OF_RANGE);
        }
        Due.be("15: parse() empties it", x.parse(), -100);
        Due.be("15: append after parse", x.append('>'), 1);
    }

    private static void promise16() {
        AmbiguityAnalyzer x = new AmbiguityAnalyzer();
        x.reset(6);
        Due.be("16: all forms", Due.parsed(x, ">0;>5;5!;0!;0a5;5b0;0c0"), 7);
        Due.be("16: initialStates()", x.initialStates(), 33);
        Due.be("16: finalStates()", x.finalStates(), 33);
        Due.be("16: transitions", x.transitionCount(), 3);
        Due.be("16: 0a5", x.successors(0, 0), 32);
        Due.be("16: 5b0", x.successors(5, 1), 1);
        Due.be("16: 0c0", x.successors(0, 2), 1);
        Due.be("16: twice and there already count", Due.parsed(x, ">0;>0;0a5;0a5;1!"), 5);
        Due.be("16: nothing twice", x.transitionCount(), 3);
        Due.be("16: it adds", x.finalStates(), 35);
        Due.be("16: empty after success", x.parse(), -100);
        Due.be("16: nothing is added", Due.parsed(x, ">3;3!;3a3;3"), -111);
        Due.be("16: initialStates()", x.initialStates(), 33);
        Due.be("16: finalStates()", x.finalStates(), 35);
        Due.be("16: transitions", x.transitionCount(), 3);
        Due.be("16: empty after errors", Due.parsed(x, "2!"), 1);
        StringBuilder full = new StringBuilder(">1;>2");
        while (full.length() < 57) {
            full.append(";1a2");
        }
        full.append(";2!");
        Due.be("16: a text of 60", full.length(), 60);
        Due.be("16: a full text", Due.parsed(x, full.toString()), 16);
    }

    private static void parseErrors() {
        AmbiguityAnalyzer x = Due.analyzer(3, "");
        String[] texts = {
            "", ">", "0", "0a", "0a1;", ">0;", "0!;", "0a1;;", ";", "!", "a", "3!", ">3", "0a3", "9",
            "0d1", "0A1", "0a1,", "0a1 ", " 0a1", "0 a1", ">>0", "0!!", ">0!", "0a!", "0a1b2", "0a1!",
            ">0;>1;x", "0a1;1b2;2c3", "00", "0;1!", ">0;1!;2a", "2a2;2a2;2", "~", "0a>", "0-1", ":!", "0`1"
        };
        int[] positions = {
            0, 1, 1, 2, 4, 3, 3, 4, 0, 0, 0, 0, 1, 2, 0,
            1, 1, 3, 3, 0, 1, 1, 2, 2, 2, 3, 3,
            6, 10, 1, 1, 8, 9, 0, 2, 1, 0, 1
        };
        for (int i = 0; i < texts.length; i++) {
            Due.be("16: parse() of " + texts[i], Due.parsed(x, texts[i]), -100 - positions[i]);
        }
        Due.be("16: nothing was added", x.transitionCount() + x.initialStates() + x.finalStates(), 0);
        StringBuilder early = new StringBuilder();
        while (early.length() < 60) {
            early.append("0a1;");
        }
        Due.be("16: ends too early at 60", Due.parsed(x, early.toString()), -160);
        AmbiguityAnalyzer six = Due.analyzer(6, "");
        Due.be("16: state 5 of 6", Due.parsed(six, "5!"), 1);
        Due.be("16: state 6 of 6", Due.parsed(six, "6!"), -100);
        AmbiguityAnalyzer one = new AmbiguityAnalyzer();
        Due.be("16: state 0 of 1", Due.parsed(one, "0a0;>0;0!"), 3);
        Due.be("16: state 1 of 1", Due.parsed(one, "0a0;>1"), -105);
        AmbiguityAnalyzer later = Due.analyzer(4, "");
        later.append('3');
        later.reset(3);
        later.append('!');
        Due.be("16: the number of states at parse() counts", later.parse(), -100);
    }

    private static void promises17To20() {
        AmbiguityAnalyzer x = new AmbiguityAnalyzer();
        int[] wrong = {-1, 3, Integer.MIN_VALUE, Integer.MAX_VALUE};
        Due.be("18: clearWord() of the empty word", x.clearWord(), 0);
        Due.be("20: wordLetter(0) of the empty word", x.wordLetter(0), AmbiguityAnalyzer.NO_SUCH_ELEMENT);
        for (int i = 0; i < 20; i++) {
            Due.be("17: appendLetter", x.appendLetter(i % 3), i + 1);
            Due.be("19: wordLength()", x.wordLength(), i + 1);
            Due.be("20: the last", x.wordLetter(i), i % 3);
            Due.be("20: behind it", x.wordLetter(i + 1), AmbiguityAnalyzer.NO_SUCH_ELEMENT);
        }
        Due.be("17: the 21st", x.appendLetter(0), AmbiguityAnalyzer.FULL);
        for (int letter : wrong) {
            Due.be("17: no letter comes first", x.appendLetter(letter), AmbiguityAnalyzer.NO_SUCH_ELEMENT);
        }
        for (int i : new int[] {-1, 20, 21, 216, Integer.MIN_VALUE, Integer.MAX_VALUE}) {
            Due.be("20: position " + i, x.wordLetter(i), AmbiguityAnalyzer.NO_SUCH_ELEMENT);
        }
        for (int i = 0; i < 20; i++) {
            Due.be("20: wordLetter(" + i + ")", x.wordLetter(i), i % 3);
        }
        Due.be("18: clearWord()", x.clearWord(), 20);
        Due.be("19: wordLength()", x.wordLength(), 0);
        Due.be("20: cleared", x.wordLetter(0), AmbiguityAnalyzer.NO_SUCH_ELEMENT);
        for (int letter : wrong) {
            Due.be("17: letter " + letter, x.appendLetter(letter), AmbiguityAnalyzer.NO_SUCH_ELEMENT);
        }
        Due.be("19: unchanged after errors", x.wordLength(), 0);
        Due.be("17: appendLetter(2)", x.appendLetter(2), 1);
        x.reset(3);
        Due.be("19: reset leaves the word", x.wordLetter(0), 2);
    }

    private static void promise21() {
        AmbiguityAnalyzer x = Due.analyzer(3, ">0;>1;0!;1!;2!;0a1;0a2;1b2;2c0;2c1");
        Due.be("21: the empty word has two", x.wordAmbiguity(), 2);
        Due.word(x, "a");
        Due.be("21: a", x.wordAmbiguity(), 2);
        Due.word(x, "ac");
        Due.be("21: ac", x.wordAmbiguity(), 2);
        Due.word(x, "bca");
        Due.be("21: bca", x.wordAmbiguity(), 2);
        Due.word(x, "cc");
        Due.be("21: cc", x.wordAmbiguity(), 0);
        Due.be("21: without states", new AmbiguityAnalyzer().wordAmbiguity(), 0);
        AmbiguityAnalyzer full = Due.analyzer(6, "");
        for (int i = 0; i < 36; i++) {
            full.addTransition(i / 6, 0, i % 6);
            full.setInitial(i % 6, true);
            full.setFinal(i % 6, true);
        }
        Due.word(full, "aaaaaaaaaaaaaaaaaaaa");
        Due.be("21: 6 to the 21st", full.wordAmbiguity(), 21936950640377856L);
        full.clearWord();
        Due.be("21: all states for the empty word", full.wordAmbiguity(), 6);
        Due.word(full, "ab");
        Due.be("21: a letter without transitions", full.wordAmbiguity(), 0);
    }
}
