/** Promises 36 to 41: the two constructions and their result. */
public final class ConstructionPromisesTest {
    private static final int NONE = AmbiguityAnalyzer.NONE;

    public static void main(String[] args) {
        noResult();
        subsets();
        leastPaths();
        limits();
        resultStays();
        promise41();
        Due.end();
    }

    private static void noResult() {
        AmbiguityAnalyzer x = Due.analyzer(1, ">0;0!;0a0");
        for (int i = 0; i < 2; i++) {
            Due.be("37: no result", x.resultStateCount(), NONE);
            Due.be("38: no result", x.resultInitials(), 0);
            Due.be("39: no result", x.resultFinals(), 0);
            Due.be("40: no result", x.resultSuccessors(0, 0), 0);
            Due.be("41: no result", x.resultAmbiguity(), NONE);
            for (int wrong : new int[] {-1, 2, Integer.MIN_VALUE, Integer.MAX_VALUE}) {
                Due.be("36: construction " + wrong, x.build(wrong), AmbiguityAnalyzer.NO_SUCH_ELEMENT);
            }
        }
        AmbiguityAnalyzer without = Due.analyzer(2, "0a1;1!");
        for (int construction = 0; construction < 2; construction++) {
            Due.be("36: without initial states", without.build(construction), 0);
            Due.be("37: without initial states", without.resultStateCount(), 0);
            Due.be("38: without initial states", without.resultInitials(), 0);
            Due.be("39: without initial states", without.resultFinals(), 0);
            Due.be("40: without initial states", without.resultSuccessors(0, 0), 0);
            Due.be("41: without initial states", without.resultAmbiguity(), 0);
        }
    }

    private static void subsets() {
        AmbiguityAnalyzer x = Due.analyzer(3, ">0;>2;1!;0a1;1a0;0b0;0b1;2b2");
        Due.be("36: build(0)", x.build(0), 5);
        Due.be("37: resultStateCount()", x.resultStateCount(), 5);
        Due.be("38: resultInitials()", x.resultInitials(), 1);
        // 0 = {0,2}, 1 = {1}, 2 = {0,1,2}, 3 = {0}, 4 = {0,1}, in the order in which they are found.
        Due.be("40: {0,2} a", x.resultSuccessors(0, 0), 1 << 1);
        Due.be("40: {0,2} b", x.resultSuccessors(0, 1), 1 << 2);
        Due.be("40: {0,2} c", x.resultSuccessors(0, 2), 0);
        Due.be("40: {1} a", x.resultSuccessors(1, 0), 1 << 3);
        Due.be("40: {1} b", x.resultSuccessors(1, 1), 0);
        Due.be("40: {0,1,2} a", x.resultSuccessors(2, 0), 1 << 4);
        Due.be("40: {0,1,2} b", x.resultSuccessors(2, 1), 1 << 2);
        Due.be("40: {0} a", x.resultSuccessors(3, 0), 1 << 1);
        Due.be("40: {0} b", x.resultSuccessors(3, 1), 1 << 4);
        Due.be("40: {0,1} a", x.resultSuccessors(4, 0), 1 << 4);
        Due.be("40: {0,1} b", x.resultSuccessors(4, 1), 1 << 4);
        Due.be("39: resultFinals()", x.resultFinals(), 0b10110);
        int[] noStates = {-1, 5, 6, 63, 64, 65, Integer.MIN_VALUE, Integer.MAX_VALUE};
        for (int wrong : noStates) {
            Due.be("40: state " + wrong, x.resultSuccessors(wrong, 0), 0);
        }
        for (int wrong : new int[] {-1, 3, Integer.MIN_VALUE, Integer.MAX_VALUE}) {
            Due.be("40: letter " + wrong, x.resultSuccessors(0, wrong), 0);
        }
    }

    private static void leastPaths() {
        AmbiguityAnalyzer x = Due.analyzer(3, ">0;>2;0!;2!;0a0;0a1;1b2;2a1");
        // 0 = (0,{}), 1 = (2,{0}), 2 = (1,{0}), 3 = (1,{0,1}), 4 = (2,{}), 5 = (2,{2}), 6 = (1,{}), 7 = (1,{1}).
        Due.be("36: build(1)", x.build(1), 8);
        Due.be("38: resultInitials()", x.resultInitials(), 0b11);
        Due.be("40: 0 a", x.resultSuccessors(0, 0), 0b101);
        Due.be("40: 1 a", x.resultSuccessors(1, 0), 1 << 3);
        Due.be("40: 2 b", x.resultSuccessors(2, 1), 1 << 4);
        Due.be("40: 2 a", x.resultSuccessors(2, 0), 0);
        Due.be("40: 3 b", x.resultSuccessors(3, 1), 1 << 5);
        Due.be("40: 4 a", x.resultSuccessors(4, 0), 1 << 6);
        Due.be("40: 5 a", x.resultSuccessors(5, 0), 1 << 7);
        Due.be("40: 6 b", x.resultSuccessors(6, 1), 1 << 4);
        Due.be("40: 7 b", x.resultSuccessors(7, 1), 1 << 5);
        // (2,{0}) and (2,{2}) are not final, for the lower set has a final state.
        Due.be("39: resultFinals()", x.resultFinals(), 0b10001);
    }

    private static void limits() {
        String fits = ">0;>2;0!;4!;5!;0a1;0a3;0a4;0a5;0c4;1a1;1a3;1b0;1b2;1c3;2a2;2b1;3c2;4a1;4a5;4c2;4c5;5a1;5a5";
        String tooLarge = ">0;>3;0a3;0a5;0b1;0b3;1a0;1a1;1c0;1c5;2a0;2a5;2c3;3a0;3a1;3b4;4a1;4b2;4b4;4c1;4c2;4c3;5b4";
        AmbiguityAnalyzer x = Due.analyzer(6, fits);
        Due.be("36: exactly 64 states", x.build(1), 64);
        Due.be("37: exactly 64 states", x.resultStateCount(), 64);
        Oracle y = new Oracle();
        y.reset(6);
        for (String item : fits.split(";")) {
            for (char c : item.toCharArray()) {
                y.append(c);
            }
            y.parse();
        }
        Due.be("36: Oracle", y.build(1), 64);
        for (int s = 0; s <= 64; s++) {
            for (int a = 0; a < 3; a++) {
                Due.be("40: of 64", x.resultSuccessors(s, a), y.resultSuccessors(s, a));
            }
        }
        long finals = x.resultFinals();
        Due.be("39: of 64", finals, y.resultFinals());
        AmbiguityAnalyzer z = Due.analyzer(6, tooLarge);
        Due.be("36: 65 states", z.build(1), AmbiguityAnalyzer.TOO_LARGE);
        Due.be("37: still no result", z.resultStateCount(), NONE);
        Due.be("36: build(0)", z.build(0) > 0);
        int states = z.resultStateCount();
        long first = z.resultSuccessors(0, 0);
        Due.be("36: 65 states again", z.build(1), AmbiguityAnalyzer.TOO_LARGE);
        Due.be("36: the previous result is kept", z.resultStateCount(), states);
        Due.be("36: its transitions too", z.resultSuccessors(0, 0), first);
    }

    private static void resultStays() {
        AmbiguityAnalyzer x = Due.analyzer(2, ">0;1!;0a1");
        Due.be("36: build(0)", x.build(0), 2);
        x.addTransition(0, 0, 0);
        x.setFinal(0, true);
        x.setInitial(1, true);
        Due.be("36: it does not change", x.resultSuccessors(0, 0), 2);
        x.reset(6);
        Due.be("36: reset leaves it", x.resultStateCount(), 2);
        Due.be("36: initials", x.resultInitials(), 1);
        Due.be("36: finals", x.resultFinals(), 2);
        Due.word(x, "a");
        Due.be("41: the old automaton", x.resultAmbiguity(), 1);
        Due.be("21: the new one", x.wordAmbiguity(), 0);
        Due.be("36: build(1) replaces it", x.build(1), 0);
        Due.be("37: replaced", x.resultStateCount(), 0);
        Due.be("41: replaced", x.resultAmbiguity(), 0);
    }

    private static void promise41() {
        AmbiguityAnalyzer x = Due.analyzer(4, ">0;>1;3!;1!;0a1;0a2;1a1;1b3;2b3;2b2;3c0;3c1");
        String[] words = {"", "a", "b", "ab", "aab", "abc", "abca", "abcb", "c", "aaaaaaaaaaaaaaaaaaab"};
        for (int construction = 0; construction < 2; construction++) {
            Due.be("36: build", x.build(construction) > 0);
            for (String word : words) {
                Due.word(x, word);
                Due.be("41: " + word, x.resultAmbiguity(), x.wordAmbiguity() > 0 ? 1 : 0);
            }
        }
        Due.word(x, "ab");
        Due.be("21: ambiguous", x.wordAmbiguity(), 3);
        Due.be("41: unambiguous", x.resultAmbiguity(), 1);
    }
}
