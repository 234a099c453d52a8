/** Promises 42 to 47: shelves, save and restore. */
public final class ShelfPromisesTest {
    private static final int NO_SUCH_ELEMENT = AmbiguityAnalyzer.NO_SUCH_ELEMENT;
    private static final int[] NO_SHELVES = {-1, 4, Integer.MIN_VALUE, Integer.MAX_VALUE};

    public static void main(String[] args) {
        words();
        counts();
        overflow();
        errors();
        saveAndRestore();
        Due.end();
    }

    private static void words() {
        AmbiguityAnalyzer x = new AmbiguityAnalyzer();
        Due.be("42: the empty word", x.keepWord(3), 0);
        Due.be("45: the empty word", x.shelfElement(3, 0), NO_SUCH_ELEMENT);
        Due.word(x, "abcabcabcabcabcabcab");
        Due.be("42: 20 letters", x.keepWord(0), 20);
        Due.word(x, "ca");
        Due.be("42: keepWord(1)", x.keepWord(1), 2);
        Due.be("45: a copy", x.shelfElement(0, 19), 1);
        Due.be("44: useWord(0)", x.useWord(0), 20);
        for (int i = 0; i < 20; i++) {
            Due.be("44: letter " + i, x.wordLetter(i), i % 3);
            Due.be("45: letter " + i, x.shelfElement(0, i), i % 3);
        }
        Due.be("44: useWord(1)", x.useWord(1), 2);
        Due.be("44: only two letters", x.wordLetter(2), NO_SUCH_ELEMENT);
        Due.be("17: the word goes on", x.appendLetter(1), 3);
        Due.be("44: the shelf does not", x.useWord(1), 2);
        Due.be("44: the empty word", x.useWord(3), 0);
        Due.be("19: the empty word", x.wordLength(), 0);
        Due.be("42: a shorter word replaces", x.keepWord(0), 0);
        Due.be("45: replaced", x.shelfElement(0, 0), NO_SUCH_ELEMENT);
        x.reset(4);
        Due.be("45: reset leaves the shelves", x.shelfElement(1, 0), 2);
    }

    private static void counts() {
        AmbiguityAnalyzer x = Due.analyzer(2, ">0;0!;1!;0a0;0a1;1b1;1c1");
        Due.be("43: keepCounts(2, 0)", x.keepCounts(2, 0), 1);
        Due.be("45: length 0", x.shelfElement(2, 0), 1);
        Due.be("45: behind it", x.shelfElement(2, 1), NO_SUCH_ELEMENT);
        Due.be("43: keepCounts(2, 30)", x.keepCounts(2, 30), 31);
        for (int i = 0; i <= 30; i++) {
            Due.be("45: length " + i, x.shelfElement(2, i), x.pathsOfLength(i));
        }
        Due.be("45: length 30", x.shelfElement(2, 30), 1L << 30);
        Due.be("45: no length 31", x.shelfElement(2, 31), NO_SUCH_ELEMENT);
        x.addTransition(1, 0, 0);
        Due.be("45: the row stays", x.shelfElement(2, 3), 8);
        Due.be("44: no word", x.useWord(2), AmbiguityAnalyzer.WRONG_TYPE);
        Due.word(x, "b");
        Due.be("42: a word replaces a row", x.keepWord(2), 1);
        Due.be("45: the word", x.shelfElement(2, 0), 1);
        Due.be("45: no row", x.shelfElement(2, 1), NO_SUCH_ELEMENT);
        Due.be("44: the word", x.useWord(2), 1);
        Due.be("43: a row replaces a word", x.keepCounts(2, 1), 2);
        Due.be("44: no word", x.useWord(2), AmbiguityAnalyzer.WRONG_TYPE);
        Due.be("44: the word stays", x.wordLength(), 1);
    }

    /** 12 times as many paths with each letter: 12^17 is a long, 12^18 is none. */
    private static void overflow() {
        AmbiguityAnalyzer x = Due.analyzer(6, ">0;0!;1!;2!;3!;4!;5!");
        for (int i = 0; i < 72; i++) {
            x.addTransition(i / 12, i % 2, i / 2 % 6);
        }
        Due.word(x, "ab");
        x.keepWord(1);
        Due.be("43: keepCounts(1, 18)", x.keepCounts(1, 18), AmbiguityAnalyzer.OVERFLOW);
        Due.be("43: the shelf stays", x.shelfElement(1, 1), 1);
        Due.be("43: keepCounts(1, 17)", x.keepCounts(1, 17), 18);
        Due.be("45: 12 to the 17th", x.shelfElement(1, 17), 2218611106740436992L);
        Due.be("43: keepCounts(1, 30)", x.keepCounts(1, 30), AmbiguityAnalyzer.OVERFLOW);
        Due.be("43: the row stays", x.shelfElement(1, 17), 2218611106740436992L);
        Due.be("43: an empty shelf stays", x.keepCounts(0, 30), AmbiguityAnalyzer.OVERFLOW);
        Due.be("45: empty", x.shelfElement(0, 0), AmbiguityAnalyzer.EMPTY_SHELF);
        // All paths in the middle are too many, but the last length has none: still an error.
        AmbiguityAnalyzer turn = Due.analyzer(6, ">0;>1;>2;3!;4!;5!");
        for (int i = 0; i < 27; i++) {
            turn.addTransition(i / 9, i / 3 % 3, 3 + i % 3);
            turn.addTransition(3 + i / 9, i / 3 % 3, i % 3);
        }
        Due.be("22: pathsOfLength(30)", turn.pathsOfLength(30), 0);
        Due.be("43: one of the numbers", turn.keepCounts(0, 30), AmbiguityAnalyzer.OVERFLOW);
    }

    private static void errors() {
        AmbiguityAnalyzer x = new AmbiguityAnalyzer();
        for (int shelf : NO_SHELVES) {
            Due.be("42: shelf " + shelf, x.keepWord(shelf), NO_SUCH_ELEMENT);
            Due.be("43: shelf " + shelf, x.keepCounts(shelf, 0), NO_SUCH_ELEMENT);
            Due.be("43: no shelf comes first", x.keepCounts(shelf, 31), NO_SUCH_ELEMENT);
            Due.be("44: shelf " + shelf, x.useWord(shelf), NO_SUCH_ELEMENT);
            Due.be("45: shelf " + shelf, x.shelfElement(shelf, 0), NO_SUCH_ELEMENT);
        }
        for (int wrong : new int[] {-1, 31, Integer.MIN_VALUE, Integer.MAX_VALUE}) {
            Due.be("43: maxLength " + wrong, x.keepCounts(0, wrong), AmbiguityAnalyzer.OUT_OF_RANGE);
            Due.be("45: empty comes first", x.shelfElement(0, wrong), AmbiguityAnalyzer.EMPTY_SHELF);
        }
        Due.be("44: still empty", x.useWord(0), AmbiguityAnalyzer.EMPTY_SHELF);
        x.keepCounts(0, 30);
        for (int wrong : new int[] {-1, 31, Integer.MIN_VALUE, Integer.MAX_VALUE}) {
            Due.be("45: position " + wrong, x.shelfElement(0, wrong), NO_SUCH_ELEMENT);
        }
    }

    private static void saveAndRestore() {
        AmbiguityAnalyzer x = new AmbiguityAnalyzer();
        Due.be("47: nothing saved", x.restore(), AmbiguityAnalyzer.NONE);
        x.reset(4);
        Due.parsed(x, ">0;3!;0a1;1b2;2c3");
        x.setWeight(1, 9);
        Due.word(x, "a");
        Due.be("46: save()", x.save(), 4);
        x.reset(2);
        Due.parsed(x, "0a0");
        x.setWeight(1, 5);
        x.setWeight(2, 6);
        x.keepWord(0);
        x.append('>');
        x.build(0);
        Due.word(x, "bc");
        Due.be("47: restore()", x.restore(), 4);
        Due.be("47: stateCount()", x.stateCount(), 4);
        Due.be("47: initialStates()", x.initialStates(), 1);
        Due.be("47: finalStates()", x.finalStates(), 8);
        Due.be("47: transitionCount()", x.transitionCount(), 3);
        Due.be("47: successors(1, 1)", x.successors(1, 1), 4);
        Due.be("47: a weight", x.setWeight(1, 9), 9);
        Due.be("47: another weight", x.setWeight(2, 1), 1);
        Due.be("47: the word stays", x.wordLength(), 2);
        Due.be("47: the shelves stay", x.shelfElement(0, 0), 0);
        Due.be("47: the result stays", x.resultStateCount(), 0);
        Due.be("47: the text stays", x.append('2'), 2);
        Due.be("47: parse()", x.parse(), 1);
        x.removeTransition(0, 0, 1);
        x.setWeight(0, 77);
        Due.be("47: restore() again", x.restore(), 4);
        Due.be("47: it stays saved", x.transitionCount(), 3);
        Due.be("47: with its weights", x.setWeight(0, 3), 1);
        Due.be("46: save() replaces", x.save(), 4);
        x.reset(6);
        Due.be("46: save() again", x.save(), 6);
        x.reset(1);
        Due.be("47: the last one", x.restore(), 6);
        Due.be("47: without transitions", x.transitionCount(), 0);
        Due.be("47: with the last weights", x.setWeight(0, 1), 3);
    }
}
