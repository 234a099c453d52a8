import java.util.function.Supplier;

/** Promises 25 to 29, sentence by sentence, at the bounds that they name. */
public final class KindBoundariesTest {
    private static final int NO_SUCH_ELEMENT = AmbiguityAnalyzer.NO_SUCH_ELEMENT;
    private static final int NONE = AmbiguityAnalyzer.NONE;
    private static final int TOO_LARGE = AmbiguityAnalyzer.TOO_LARGE;
    private static final Supplier<AmbiguityAnalyzer> BUSY = Busy::analyzer;

    private static final String ROWS_1000 = ">0;>1;>2;>3;>4;>5;1!;4!;0a2;0a3;0a4;0a5;0b2;0c1;0c2;0c3;0c4;0c5;1a3;1b3;1c4;"
        + "2a5;2b4;2c2;3a1;3b1;3c3;4a2;4b2;4c1;5a4;5b5;5c4";
    private static final String ROWS_1001 = ">0;>1;>2;>3;>4;>5;0!;1!;3!;5!;0a3;0b5;0c3;1a1;1b3;1c5;2a0;2a1;2b1;2b5;2c0;2c1;"
        + "2c3;2c4;2c5;3a4;3b4;3c0;4a5;4b0;4c1;5a0;5b1;5c3";
    /** Here one of the rows has zeros only; it belongs to words that are not accepted. */
    private static final String ROWS_1000_WITH_ZEROS = ">0;>1;>2;>3;>4;2!;3!;4!;0a5;0b0;0c5;1a2;1b4;2a4;2b1;2c0;3a1;3a2;3a4;"
        + "3a5;3b3;3c0;3c2;3c4;3c5;4a0;4b5;4c4;5a1;5b2;5c5";
    private static final String ROWS_1001_WITH_ZEROS = ">0;>1;>2;>3;>4;>5;0!;2!;3!;0a4;0b0;0c4;1a3;1b5;2a4;2c1;2c2;2c4;2c5;"
        + "3a0;3b3;3c3;4a1;4b4;4c1;5a5;5b1;5c4";
    private static final String SPLIT = ">0;1!;0a0;0a1;1a1";
    private static final String LOOP = ">0;0!;0a0;0a1;1a0";

    public static void main(String[] args) {
        promise25();
        promise26();
        promise27();
        promise28();
        promise29();
        Sentences.endOfPromises(25, 29);
    }

    private static void kind(int kind, int states, String items) {
        Due.be("kind() of " + items, Due.analyzer(states, items).kind(), kind);
    }

    private static void promise25() {
        Sentences.promise(25, "Returns the kind of the automaton.", () -> {
            AmbiguityAnalyzer x = new AmbiguityAnalyzer();
            Due.be("kind() of nothing", x.kind(), 0);
            x.reset(2);
            Due.fill(x, SPLIT);
            Due.be("kind() of a split", x.kind(), 2);
            x.addTransition(1, 0, 0);
            Due.be("kind() of a loop", x.kind(), 3);
            x.removeTransition(0, 0, 0);
            x.removeTransition(1, 0, 1);
            Due.be("kind() of a ring", x.kind(), 0);
        });
        Sentences.promise(25, "Returns 0 unambiguous, 1 finitely, 2 polynomially, 3 exponentially ambiguous.", () -> {
            kind(0, 2, ">0;>1;0!");
            kind(1, 2, ">0;>1;0!;1!");
            kind(0, 2, ">0;1!;0a0;0a1;1b1");
            kind(1, 3, ">0;>2;1!;0a0;0a1;1b1;2a2;2a1");
            kind(2, 2, SPLIT);
            kind(2, 3, ">0;1!;0a0;0a1;1a1;1a2;2a2;2!");
            kind(3, 2, LOOP);
            kind(3, 3, ">0;2!;0a0;0a1;1a0;1b2");
        });
    }

    private static void promise26() {
        Sentences.promise(26, "Returns the degree of the automaton.", () -> {
            AmbiguityAnalyzer x = Due.analyzer(2, SPLIT);
            Due.be("degree() of a split", x.degree(), 1);
            x.removeTransition(0, 0, 1);
            Due.be("degree() without it", x.degree(), 0);
        });
        Sentences.promise(26, "Returns the degree", () -> {
            Due.be("degree() of nothing", new AmbiguityAnalyzer().degree(), 0);
            String items = ">0;5!;0a0";
            for (int state = 1; state < 6; state++) {
                items += ";" + (state - 1) + "a" + state + ";" + state + "a" + state;
                AmbiguityAnalyzer x = Due.analyzer(6, items);
                x.setFinal(state, true);
                Due.be("degree() of " + items, x.degree(), state);
            }
            AmbiguityAnalyzer down = Due.analyzer(6, ">5;0!;5c5;5c4;4c4;4c3;3c3;3c2;2c2;2c1;1c1;1c0;0c0");
            Due.be("degree() downwards", down.degree(), 5);
            down.setInitial(1, true);
            down.setInitial(5, false);
            Due.be("degree() of what is useful of it", down.degree(), 1);
            down.setInitial(1, false);
            Due.be("degree() of nothing on the same object", down.degree(), 0);
        });
        Sentences.promise(26, "NONE if the automaton is of kind 3.", () -> {
            Refusal.is("degree()", NONE, Busy.with(2, LOOP), AmbiguityAnalyzer::degree);
            Refusal.is("degree() with a split", NONE, Busy.with(4, LOOP + ";1a2;2a2;2a3;3a3;3!"), AmbiguityAnalyzer::degree);
            Due.be("degree() of kind 2", Due.analyzer(2, SPLIT).degree(), 1);
            Due.be("degree() with a loop that is of no use", Due.analyzer(3, SPLIT + ";1a2;2a2;2b2;0a2").degree(), 1);
        });
    }

    private static void maximum(long maximum, int states, String items) {
        Due.be("maximumAmbiguity() of " + items, Due.analyzer(states, items).maximumAmbiguity(), maximum);
    }

    private static void promise27() {
        Sentences.promise(27, "Returns the highest ambiguity of all words.", () -> {
            maximum(2, 4, ">0;3!;0a1;0a2;1a3;2a3");
            maximum(1, 4, ">0;3!;0a1;0a2;1a3;2b3");
            maximum(3, 6, ">0;3!;5!;0a1;0a2;1a3;2a3;2a5;0a4;4b3;3c3");
            maximum(1, 3, ">0;2!;0a1;1b2;0b2");
            maximum(1, 2, ">0;1!;0a1;1a1");
        });
        Sentences.promise(27, "To each word belongs a row of numbers: for each useful state the number of paths with this "
            + "word from initial states to it.", () -> {
                // The number of paths to the states 1 and 2, which are of no use, has no bound.
                maximum(1, 3, ">0;0!;0b0;0a0;0a1;1a1;1a2;2a1;2a2");
                maximum(1, 3, ">0;0!;0b0;>1;>2;1b1;1b2;2b1;2b2;1a1;2a2");
                maximum(6, 6, ">0;>1;>2;>3;>4;>5;0!;1!;2!;3!;4!;5!");
            });
        Sentences.promise(27, "Returns the highest ambiguity, 0 if no word is accepted", () -> {
            maximum(0, 1, "");
            maximum(0, 2, ">0;1!;0a0;1b1;0b0");
            maximum(0, 3, ">0;1!;0a0;0a2;2a0;2a2");
            maximum(1, 2, ">0;1!;0a1");
            maximum(1, 1, ">0;0!");
            Refusal.is("maximumAmbiguity(), which is no error", 0, Busy.with(2, ">0;1!"), AmbiguityAnalyzer::maximumAmbiguity);
        });
        Sentences.promise(27, "NONE if the automaton is of kind 2 or 3", () -> {
            Refusal.is("of kind 2", NONE, Busy.with(2, SPLIT), AmbiguityAnalyzer::maximumAmbiguity);
            Refusal.is("of kind 3", NONE, Busy.with(2, LOOP), AmbiguityAnalyzer::maximumAmbiguity);
            maximum(2, 2, ">0;>1;0!;1!;0a0;1a1");
            maximum(1, 2, ">0;1!;0a0;0a1;1b1");
        });
        Sentences.promise(27, "TOO_LARGE if there are more than 1000 different rows that belong to words.", () -> {
            maximum(10, 6, ROWS_1000);
            maximum(8, 6, ROWS_1000_WITH_ZEROS);
            Refusal.is("of 1001", TOO_LARGE, Busy.with(6, ROWS_1001), AmbiguityAnalyzer::maximumAmbiguity);
            Refusal.is("of 1001 with one of zeros", TOO_LARGE, Busy.with(6, ROWS_1001_WITH_ZEROS),
                AmbiguityAnalyzer::maximumAmbiguity);
            AmbiguityAnalyzer x = Due.analyzer(6, ROWS_1001);
            Due.be("too large", x.maximumAmbiguity(), TOO_LARGE);
            x.reset(6);
            Due.fill(x, ROWS_1000);
            Due.be("of 1000 on the same object", x.maximumAmbiguity(), 10);
            x.reset(6);
            Due.be("of one row on the same object", x.maximumAmbiguity(), 0);
        });
    }

    /** Of six states without transitions none is a loop state, and no two are a split pair. */
    private static void takesStates(String call, Refusal.WithInt answer) {
        for (int states = 1; states <= 6; states++) {
            Supplier<AmbiguityAnalyzer> made = Busy.with(states, "");
            Due.be(call + " of the first", answer.on(made.get(), 0), 0);
            Due.be(call + " of the last", answer.on(made.get(), states - 1), 0);
            Refusal.outside(call + " of " + states, NO_SUCH_ELEMENT, made, answer, 0, states - 1);
        }
        Refusal.each(call, NO_SUCH_ELEMENT, BUSY, answer, 8, 32, 64);
    }

    private static void loops(int states, String items, int due) {
        AmbiguityAnalyzer x = Due.analyzer(states, items);
        for (int state = 0; state < states; state++) {
            Due.be("isLoopState(" + state + ") of " + items, x.isLoopState(state), due >> state & 1);
        }
    }

    private static void promise28() {
        Sentences.promise(28, "Returns whether a state is a loop state.", () -> {
            loops(3, ">0;2!;0a0;0a1;1a0;1b2", 0b011);
            loops(3, ">2;0!;2a2;2a1;1a2;1b0", 0b110);
        });
        Sentences.promise(28, "`state`: the state", () -> takesStates("isLoopState(?)", AmbiguityAnalyzer::isLoopState));
        Sentences.promise(28, "Returns 1 if it is, 0 if not", () -> {
            loops(1, ">0;0!;0a0;0b0;0c0", 0);
            loops(2, ">0;0!;0a1;1a0", 0);
            loops(2, ">0;0!;0a1;1a0;1a1", 0b11);
            loops(6, ">5;5!;5a5;5a4;4a5", 0b110000);
            loops(6, ">0;5!;0a1;1a2;2a3;3a4;4a5;5a0;0a0", 0b111111);
            loops(2, ">0;0!;1a1;0b1", 0);
        });
        Sentences.promise(28, "NO_SUCH_ELEMENT if there is no such state.", () -> {
            Supplier<AmbiguityAnalyzer> loop = Busy.with(2, LOOP);
            Due.be("isLoopState(1)", loop.get().isLoopState(1), 1);
            Refusal.outside("isLoopState(?)", NO_SUCH_ELEMENT, loop, AmbiguityAnalyzer::isLoopState, 0, 1);
        });
    }

    private static void pair(int due, int p, int q, int states, String items) {
        Due.be("isSplitPair(" + p + ", " + q + ") of " + items, Due.analyzer(states, items).isSplitPair(p, q), due);
    }

    private static void promise29() {
        Sentences.promise(29, "Returns whether two states are a split pair.", () -> {
            pair(1, 0, 1, 2, SPLIT);
            pair(0, 1, 0, 2, SPLIT);
            pair(1, 5, 0, 6, ">5;0!;5c5;5c0;0c0");
        });
        Sentences.promise(29, "`p`: the first state", () -> {
            takesStates("isSplitPair(?, 0)", (x, p) -> x.isSplitPair(p, 0));
            Due.be("p is the last", Due.analyzer(6, ">5;0!;5c5;5c0;0c0").isSplitPair(5, 0), 1);
        });
        Sentences.promise(29, "`q`: the second state", () -> {
            takesStates("isSplitPair(0, ?)", (x, q) -> x.isSplitPair(0, q));
            Due.be("q is the last", Due.analyzer(6, ">0;5!;0c0;0c5;5c5").isSplitPair(0, 5), 1);
        });
        Sentences.promise(29, "Returns 1 if they are, 0 if not, also if both are the same", () -> {
            pair(0, 0, 0, 2, SPLIT);
            pair(0, 1, 1, 2, SPLIT);
            pair(0, 0, 0, 2, LOOP);
            pair(0, 0, 0, 1, ">0;0!;0a0;0b0;0c0");
            pair(0, 0, 0, 1, "");
            pair(0, 0, 1, 2, ">0;1!;0a0;0a1;1b1");
            pair(1, 0, 1, 2, ">0;1!;0a0;0a1;1b1;0b1;1a1");
            Refusal.is("isSplitPair(1, 1), which is no error", 0, Busy.with(2, SPLIT), x -> x.isSplitPair(1, 1));
        });
        Sentences.promise(29, "NO_SUCH_ELEMENT if there is no such state.", () -> {
            Supplier<AmbiguityAnalyzer> split = Busy.with(2, SPLIT);
            Refusal.outside("isSplitPair(0, ?)", NO_SUCH_ELEMENT, split, (x, q) -> x.isSplitPair(0, q), 0, 1);
            Refusal.outside("isSplitPair(?, 1)", NO_SUCH_ELEMENT, split, (x, p) -> x.isSplitPair(p, 1), 0, 1);
            Refusal.outside("isSplitPair(?, the same)", NO_SUCH_ELEMENT, split, (x, p) -> x.isSplitPair(p, p), 0, 1);
        });
    }
}
