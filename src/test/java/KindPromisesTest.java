/** Promises 25 to 29: kind, degree, highest ambiguity, loop states and split pairs. */
public final class KindPromisesTest {
    /** Exactly 1000 different rows, highest ambiguity 8. */
    private static final String THOUSAND_ROWS = ">0;>1;>2;>3;>5;0!;1!;0a1;0a4;0b3;0b4;0c2;0c3;0c4;0c5;1a5;1c4;"
        + "2a1;2b5;2c2;3a2;3b2;3c1;4a4;4b4;4c1;5a3;5b3;5c5";
    /** Exactly 1001 different rows. */
    private static final String MORE_ROWS = ">0;>2;>3;>4;>5;0!;2!;3!;4!;5!;0a1;0a3;0a4;0b1;0b2;0b3;0b4;0b5;"
        + "0c1;0c2;0c3;0c4;1a5;1b4;1c2;2a4;2b2;2c3;3a3;3b1;3c5;4a1;4b3;4c1;5a2;5b5;5c1";

    public static void main(String[] args) {
        promise25();
        promise26();
        promise27();
        promise28();
        promise29();
        Due.end();
    }

    private static void kinds(String name, AmbiguityAnalyzer x, int kind, int degree, long maximum) {
        Due.be("25: kind() of " + name, x.kind(), kind);
        Due.be("26: degree() of " + name, x.degree(), degree);
        Due.be("27: maximumAmbiguity() of " + name, x.maximumAmbiguity(), maximum);
    }

    private static void promise25() {
        int none = AmbiguityAnalyzer.NONE;
        kinds("nothing", new AmbiguityAnalyzer(), 0, 0, 0);
        kinds("the empty word", Due.analyzer(1, ">0;0!"), 0, 0, 1);
        kinds("all words", Due.analyzer(1, ">0;0!;0a0;0b0;0c0"), 0, 0, 1);
        kinds("two empty paths", Due.analyzer(2, ">0;>1;0!;1!"), 1, 0, 2);
        kinds("six empty paths",
            Due.analyzer(6, ">0;>1;>2;>3;>4;>5;0!;1!;2!;3!;4!;5!;0a0;1a1;2b2"), 1, 0, 6);
        kinds("a diamond", Due.analyzer(4, ">0;0a1;0a2;1b3;2b3;3!"), 1, 0, 2);
        kinds("two diamonds", Due.analyzer(6, ">0;0a1;0a2;1a3;2a3;3a4;3a5;4!;5!"), 1, 0, 4);
        kinds("a split", Due.analyzer(2, ">0;1!;0a0;0a1;1a1"), 2, 1, none);
        kinds("a split of different letters", Due.analyzer(2, ">0;1!;0a0;0a1;1b1"), 0, 0, 1);
        kinds("a loop", Due.analyzer(2, ">0;0!;0a0;0a1;1a0"), 3, none, none);
        kinds("a loop and a split", Due.analyzer(3, ">0;0!;0a0;0a1;1a0;1a2;2a2;2!"), 3, none, none);
        kinds("a loop that is not useful", Due.analyzer(3, ">0;0!;0a0;1a1;1a2;2a1;2a2;0b1"), 0, 0, 1);
        kinds("a split that is not useful", Due.analyzer(3, ">0;0!;1a1;1a2;2a2;0b1"), 0, 0, 1);
        kinds("a loop in front", Due.analyzer(3, ">0;0!;1a1;1a2;2a1;2a2;1b0"), 0, 0, 1);
    }

    private static void promise26() {
        String chain = ">0;0a0";
        for (int n = 2; n <= 6; n++) {
            chain += ";" + (n - 2) + "a" + (n - 1) + ";" + (n - 1) + "a" + (n - 1);
            AmbiguityAnalyzer x = Due.analyzer(n, chain + ";" + (n - 1) + "!");
            Due.be("25: a chain of " + n, x.kind(), 2);
            Due.be("26: a chain of " + n, x.degree(), n - 1);
        }
        Due.be("26: a chain downwards", Due.analyzer(6,
            ">5;0!;5a5;5a4;4a4;4a3;3a3;3a2;2a2;2a1;1a1;1a0;0a0").degree(), 5);
        Due.be("26: pairs with a path between", Due.analyzer(4, ">0;3!;0a0;0a1;1a1;1b2;2c2;2c3;3c3").degree(), 2);
        Due.be("26: pairs side by side", Due.analyzer(4, ">0;>2;1!;3!;0a0;0a1;1a1;2b2;2b3;3b3").degree(), 1);
        Due.be("26: pairs without a path", Due.analyzer(5, ">4;4a0;4a2;1!;3!;0a0;0a1;1a1;2b2;2b3;3b3").degree(), 1);
        Due.be("26: the longer branch", Due.analyzer(6,
            ">0;1!;5!;0a0;0a1;1a1;0b2;2a2;2a3;3a3;3a4;4a4;4c5;0c0").degree(), 2);
        AmbiguityAnalyzer again = Due.analyzer(6, ">5;0!;5a5;5a4;4a4;4a3;3a3;3a2;2a2;2a1;1a1;1a0;0a0");
        Due.be("26: the same object", again.degree(), 5);
        again.reset(2);
        Due.parsed(again, ">0;1!;0a0;0a1;1a1");
        Due.be("26: the same object again", again.degree(), 1);
        // With one letter for all loops, the pair of the first and the last state is one step only.
        Due.be("26: one jump", Due.analyzer(3, ">0;2!;0a0;0a2;2a2;0b1").degree(), 1);
    }

    private static void promise27() {
        kinds("exactly 1000 rows", Due.analyzer(6, THOUSAND_ROWS), 1, 0, 8);
        kinds("1001 rows", Due.analyzer(6, MORE_ROWS), 1, 0, AmbiguityAnalyzer.TOO_LARGE);
        Oracle oracle = new Oracle();
        oracle.reset(6);
        for (String item : THOUSAND_ROWS.split(";")) {
            for (char c : item.toCharArray()) {
                oracle.append(c);
            }
            oracle.parse();
        }
        Due.be("27: rows of the Oracle", oracle.countRows(2000), 1000);
        AmbiguityAnalyzer x = Due.analyzer(6, MORE_ROWS);
        Due.be("27: it is too large", x.maximumAmbiguity(), AmbiguityAnalyzer.TOO_LARGE);
        x.reset(1);
        Due.be("27: and well again", x.maximumAmbiguity(), 0);
        AmbiguityAnalyzer again = new AmbiguityAnalyzer();
        String[] automata = {THOUSAND_ROWS, ">0;>1;0!;1!", THOUSAND_ROWS, MORE_ROWS, THOUSAND_ROWS, "0!", ">0;0a1;0a2;1!;2!"};
        int[] maxima = {8, 2, 8, AmbiguityAnalyzer.TOO_LARGE, 8, 0, 2};
        for (int i = 0; i < automata.length; i++) {
            again.reset(6);
            for (String item : automata[i].split(";")) {
                Due.be("16: " + item, Due.parsed(again, item), 1);
            }
            Due.be("27: the same object, automaton " + i, again.maximumAmbiguity(), maxima[i]);
        }
        kinds("accepted words of one path, others of more",
            Due.analyzer(3, ">0;>1;0a2;1b2;2!;0c0;1c1"), 0, 0, 1);
        kinds("a product", Due.analyzer(6, ">0;>1;0a2;0a3;1a2;1a3;2b4;2b5;3b4;3b5;4!;5!"), 1, 0, 8);
    }

    private static void promise28() {
        AmbiguityAnalyzer x = Due.analyzer(4, ">0;2!;0a0;0a1;1a0;0b2;3a3;3a0");
        Due.be("28: isLoopState(0)", x.isLoopState(0), 1);
        Due.be("28: isLoopState(1)", x.isLoopState(1), 1);
        Due.be("28: isLoopState(2)", x.isLoopState(2), 0);
        Due.be("28: not useful", x.isLoopState(3), 0);
        for (int wrong : new int[] {-1, 4, 6, Integer.MIN_VALUE, Integer.MAX_VALUE}) {
            Due.be("28: state " + wrong, x.isLoopState(wrong), AmbiguityAnalyzer.NO_SUCH_ELEMENT);
        }
        x.setFinal(2, false);
        Due.be("28: nothing is useful", x.isLoopState(0), 0);
        AmbiguityAnalyzer letters = Due.analyzer(1, ">0;0!;0a0;0b0;0c0");
        Due.be("28: loops of different words", letters.isLoopState(0), 0);
        AmbiguityAnalyzer far = Due.analyzer(3, ">0;0!;0a1;0a2;1b0;2b0");
        Due.be("28: two ways round", far.isLoopState(0), 1);
        Due.be("28: through the other", far.isLoopState(1), 1);
    }

    private static void promise29() {
        AmbiguityAnalyzer x = Due.analyzer(4, ">0;1!;2!;0a0;0a1;1a1;0b2;2a2;0b0;3a3;3a0");
        Due.be("29: isSplitPair(0, 1)", x.isSplitPair(0, 1), 1);
        Due.be("29: the order matters", x.isSplitPair(1, 0), 0);
        Due.be("29: the same state", x.isSplitPair(0, 0), 0);
        Due.be("29: no common word", x.isSplitPair(0, 2), 0);
        Due.be("29: not useful", x.isSplitPair(3, 0), 0);
        for (int wrong : new int[] {-1, 4, 6, Integer.MIN_VALUE, Integer.MAX_VALUE}) {
            Due.be("29: p " + wrong, x.isSplitPair(wrong, 0), AmbiguityAnalyzer.NO_SUCH_ELEMENT);
            Due.be("29: q " + wrong, x.isSplitPair(0, wrong), AmbiguityAnalyzer.NO_SUCH_ELEMENT);
            Due.be("29: both " + wrong, x.isSplitPair(wrong, wrong), AmbiguityAnalyzer.NO_SUCH_ELEMENT);
        }
        x.addTransition(2, 1, 2);
        Due.be("29: a common word", x.isSplitPair(0, 2), 1);
        AmbiguityAnalyzer both = Due.analyzer(2, ">0;0!;0a0;0a1;1a0;1a1");
        Due.be("29: (0, 1) of both", both.isSplitPair(0, 1), 1);
        Due.be("29: (1, 0) of both", both.isSplitPair(1, 0), 1);
    }
}
