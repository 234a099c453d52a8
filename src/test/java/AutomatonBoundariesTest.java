import java.util.function.Supplier;

/** Promises 1 to 14, sentence by sentence, at the bounds that they name. */
public final class AutomatonBoundariesTest {
    private static final int NO_SUCH_ELEMENT = AmbiguityAnalyzer.NO_SUCH_ELEMENT;
    private static final int OUT_OF_RANGE = AmbiguityAnalyzer.OUT_OF_RANGE;
    private static final Supplier<AmbiguityAnalyzer> BUSY = Busy::analyzer;

    public static void main(String[] args) {
        promise1();
        promise2();
        promise3();
        promise4();
        promise5();
        promise6();
        promise7();
        promise8();
        promises9And10();
        promise11();
        promise12();
        promise13();
        promise14();
        seeds();
        Sentences.endOfPromises(1, 14);
    }

    private static void promise1() {
        Sentences.promise(1, "Creates an analyzer whose automaton has one state, which is neither initial nor final, "
            + "and no transitions.", () -> {
                AmbiguityAnalyzer x = new AmbiguityAnalyzer();
                Due.be("stateCount()", x.stateCount(), 1);
                Due.be("initialStates()", x.initialStates(), 0);
                Due.be("finalStates()", x.finalStates(), 0);
                Due.be("transitionCount()", x.transitionCount(), 0);
                for (int letter = 0; letter < 3; letter++) {
                    Due.be("successors(0, " + letter + ")", x.successors(0, letter), 0);
                }
                Due.be("setInitial(0, false)", x.setInitial(0, false), 0);
                Due.be("setFinal(0, false)", x.setFinal(0, false), 0);
                Due.be("setInitial(1, false)", x.setInitial(1, false), NO_SUCH_ELEMENT);
            });
    }

    /** All six states with all marks and all 108 transitions. */
    private static AmbiguityAnalyzer everything() {
        AmbiguityAnalyzer x = Due.analyzer(6, ">0;>1;>2;>3;>4;>5;0!;1!;2!;3!;4!;5!");
        for (int i = 0; i < 108; i++) {
            Due.be("addTransition", x.addTransition(i / 18, i % 3, i / 3 % 6), 1);
        }
        return x;
    }

    private static String empty(int states) {
        AmbiguityAnalyzer x = new AmbiguityAnalyzer();
        x.reset(states);
        return Observed.automaton(x);
    }

    private static void promise2() {
        Sentences.promise(2, "Replaces the automaton by one without transitions and without initial and final states.",
            () -> {
                for (int states = 1; states <= 6; states++) {
                    AmbiguityAnalyzer x = everything();
                    Due.be("reset(" + states + ")", x.reset(states), 6);
                    Due.same("the automaton", Observed.automaton(x), empty(states));
                    Due.be("reset(6)", x.reset(6), states);
                    Due.same("the automaton", Observed.automaton(x), empty(6));
                }
            });
        Sentences.promise(2, "`states`: the number of states, 1 to 6", () -> {
            AmbiguityAnalyzer x = new AmbiguityAnalyzer();
            Due.be("reset(6)", x.reset(6), 1);
            Due.be("setFinal(5, true)", x.setFinal(5, true), 0);
            Due.be("reset(1)", x.reset(1), 6);
            Due.be("setFinal(0, true)", x.setFinal(0, true), 0);
            Due.be("setFinal(1, true)", x.setFinal(1, true), NO_SUCH_ELEMENT);
        });
        Sentences.promise(2, "Returns the previous number of states", () -> {
            AmbiguityAnalyzer x = new AmbiguityAnalyzer();
            int previous = 1;
            for (int states : new int[] {1, 6, 6, 2, 5, 3, 4, 1, 1}) {
                Due.be("reset(" + states + ")", x.reset(states), previous);
                previous = states;
            }
        });
        Sentences.promise(2, "OUT_OF_RANGE if states is out of range.", () ->
            Refusal.outside("reset(?)", OUT_OF_RANGE, BUSY, AmbiguityAnalyzer::reset, 1, 6));
    }

    private static void promise3() {
        Sentences.promise(3, "Returns the number of states.", () -> {
            AmbiguityAnalyzer x = Due.analyzer(5, ">4;4!;>0");
            Due.be("stateCount()", x.stateCount(), 5);
            x.save();
            x.trim();
            Due.be("stateCount() after trim()", x.stateCount(), 1);
            x.restore();
            Due.be("stateCount() after restore()", x.stateCount(), 5);
        });
        Sentences.promise(3, "Returns 1 to 6.", () -> {
            AmbiguityAnalyzer x = new AmbiguityAnalyzer();
            Due.be("stateCount()", x.stateCount(), 1);
            x.reset(0);
            Due.be("stateCount() after reset(0)", x.stateCount(), 1);
            x.trim();
            Due.be("stateCount() after trim()", x.stateCount(), 1);
            x.reset(6);
            x.reset(7);
            Due.be("stateCount() after reset(6) and reset(7)", x.stateCount(), 6);
        });
    }

    /** Whatever the number of states is, the first and the last state are there and those beside them are not. */
    private static void takesStates(String call, Refusal.WithInt answer) {
        for (int states = 1; states <= 6; states++) {
            Supplier<AmbiguityAnalyzer> made = Busy.with(states, "");
            for (int state : new int[] {0, states - 1}) {
                String name = call.replace("?", "" + state) + " with " + states + " states";
                Due.be(name, answer.on(made.get(), state), 0);
            }
            Refusal.outside(call + " with " + states + " states", NO_SUCH_ELEMENT, made, answer, 0, states - 1);
        }
        // Numbers of which the lowest bits say state 0.
        Refusal.each(call, NO_SUCH_ELEMENT, BUSY, answer, 6, 8, 32, 64, 256);
    }

    private static void takesLetters(String call, long first, Refusal.WithInt answer) {
        for (int letter = 0; letter < 3; letter++) {
            Due.be(call.replace("?", "" + letter), answer.on(Busy.with(2, "").get(), letter), first);
        }
        Refusal.outside(call, NO_SUCH_ELEMENT, BUSY, answer, 0, 2);
    }

    private static void promise4() {
        Sentences.promise(4, "Adds a transition.", () -> {
            for (int i = 0; i < 108; i++) {
                AmbiguityAnalyzer x = Due.analyzer(6, "");
                Due.be("addTransition", x.addTransition(i / 18, i % 3, i / 3 % 6), 1);
                Due.be("transitionCount()", x.transitionCount(), 1);
                Due.be("successors", x.successors(i / 18, i % 3), 1 << i / 3 % 6);
            }
        });
        Sentences.promise(4, "`from`: a state", () ->
            takesStates("addTransition(?, 0, 0) - 1", (x, from) -> added(x.addTransition(from, 0, 0))));
        Sentences.promise(4, "`letter`: the letter, 0 to 2", () ->
            takesLetters("addTransition(1, ?, 0)", 1, (x, letter) -> x.addTransition(1, letter, 0)));
        Sentences.promise(4, "`to`: a state", () ->
            takesStates("addTransition(0, 0, ?) - 1", (x, to) -> added(x.addTransition(0, 0, to))));
        Sentences.promise(4, "Returns 1 if it is new, 0 if it was there", () -> {
            AmbiguityAnalyzer x = Due.analyzer(6, "5c4;4c5;5b5");
            Due.be("addTransition(5, 2, 5)", x.addTransition(5, 2, 5), 1);
            Due.be("addTransition(5, 2, 5) again", x.addTransition(5, 2, 5), 0);
            Due.be("transitionCount()", x.transitionCount(), 4);
            Due.be("removeTransition(5, 2, 5)", x.removeTransition(5, 2, 5), 1);
            Due.be("addTransition(5, 2, 5) once more", x.addTransition(5, 2, 5), 1);
        });
        Sentences.promise(4, "NO_SUCH_ELEMENT if there is no such state or letter.", () -> {
            Refusal.is("addTransition(6, 2, 5)", NO_SUCH_ELEMENT, BUSY, x -> x.addTransition(6, 2, 5));
            Refusal.is("addTransition(5, 3, 5)", NO_SUCH_ELEMENT, BUSY, x -> x.addTransition(5, 3, 5));
            Refusal.is("addTransition(5, 2, 6)", NO_SUCH_ELEMENT, BUSY, x -> x.addTransition(5, 2, 6));
            Refusal.is("addTransition(0, -1, 5)", NO_SUCH_ELEMENT, BUSY, x -> x.addTransition(0, -1, 5));
            Refusal.is("addTransition(4, 3, 3)", NO_SUCH_ELEMENT, BUSY, x -> x.addTransition(4, 3, 3));
            Refusal.is("addTransition(-1, -1, -1)", NO_SUCH_ELEMENT, BUSY, x -> x.addTransition(-1, -1, -1));
        });
    }

    /** 0 for a new transition, so that takesStates can ask for it. */
    private static int added(int answer) {
        return answer == 1 ? 0 : answer;
    }

    private static void promise5() {
        Sentences.promise(5, "Removes a transition.", () -> {
            for (int i = 0; i < 108; i += 5) {
                AmbiguityAnalyzer x = everything();
                Due.be("removeTransition", x.removeTransition(i / 18, i % 3, i / 3 % 6), 1);
                Due.be("transitionCount()", x.transitionCount(), 107);
                Due.be("successors", x.successors(i / 18, i % 3), 63 - (1 << i / 3 % 6));
            }
        });
        Sentences.promise(5, "`from`: a state", () ->
            takesStates("removeTransition(?, 0, 0)", (x, from) -> removed(x, from, 0)));
        Sentences.promise(5, "`letter`: the letter, 0 to 2", () ->
            takesLetters("removeTransition(1, ?, 1)", 0, (x, letter) -> x.removeTransition(1, letter, 1)));
        Sentences.promise(5, "`to`: a state", () ->
            takesStates("removeTransition(0, 0, ?)", (x, to) -> removed(x, 0, to)));
        Sentences.promise(5, "Returns 1 if it was there, 0 if not", () -> {
            AmbiguityAnalyzer x = Due.analyzer(6, "5c5;5c4;4c5;5b5");
            Due.be("removeTransition(5, 2, 5)", x.removeTransition(5, 2, 5), 1);
            Due.be("removeTransition(5, 2, 5) again", x.removeTransition(5, 2, 5), 0);
            Due.be("removeTransition(0, 0, 0)", x.removeTransition(0, 0, 0), 0);
            Due.be("transitionCount()", x.transitionCount(), 3);
        });
        Sentences.promise(5, "NO_SUCH_ELEMENT if there is no such state or letter.", () -> {
            Refusal.is("removeTransition(6, 0, 0)", NO_SUCH_ELEMENT, BUSY, x -> x.removeTransition(6, 0, 0));
            Refusal.is("removeTransition(0, 3, 0)", NO_SUCH_ELEMENT, BUSY, x -> x.removeTransition(0, 3, 0));
            Refusal.is("removeTransition(0, 0, 6)", NO_SUCH_ELEMENT, BUSY, x -> x.removeTransition(0, 0, 6));
            // As cells of one row these would be 0a0, and 0b1 and 5a5.
            Refusal.is("removeTransition(-1, 3, 0)", NO_SUCH_ELEMENT, BUSY, x -> x.removeTransition(-1, 3, 0));
            Refusal.is("removeTransition(-1, 4, 1)", NO_SUCH_ELEMENT, BUSY, x -> x.removeTransition(-1, 4, 1));
            Refusal.is("removeTransition(4, 3, 5)", NO_SUCH_ELEMENT, BUSY, x -> x.removeTransition(4, 3, 5));
        });
    }

    /** Adds the transition first, if it can be; then 0 is due for the second removal. */
    private static int removed(AmbiguityAnalyzer x, int from, int to) {
        x.addTransition(from, 0, to);
        int first = x.removeTransition(from, 0, to);
        return first == 1 ? x.removeTransition(from, 0, to) : first;
    }

    private static void promise6() {
        Sentences.promise(6, "Returns the number of transitions.", () -> {
            AmbiguityAnalyzer x = Due.analyzer(6, "");
            Due.be("transitionCount() of none", x.transitionCount(), 0);
            x.addTransition(5, 2, 5);
            Due.be("transitionCount()", x.transitionCount(), 1);
            AmbiguityAnalyzer full = everything();
            Due.be("transitionCount() of all", full.transitionCount(), 108);
            full.addTransition(5, 2, 5);
            full.addTransition(5, 2, 6);
            Due.be("transitionCount() of all", full.transitionCount(), 108);
            full.removeTransition(0, 0, 0);
            Due.be("transitionCount()", full.transitionCount(), 107);
        });
    }

    private static void promise7() {
        Sentences.promise(7, "Makes a state initial or not.", () -> {
            for (int state = 0; state < 6; state++) {
                AmbiguityAnalyzer x = Due.analyzer(6, "");
                x.setInitial(state, true);
                Due.be("only " + state, x.initialStates(), 1 << state);
                Due.be("none final", x.finalStates(), 0);
                AmbiguityAnalyzer full = everything();
                full.setInitial(state, false);
                Due.be("all but " + state, full.initialStates(), 63 - (1 << state));
                Due.be("all final", full.finalStates(), 63);
            }
        });
        Sentences.promise(7, "`state`: the state", () -> {
            takesStates("setInitial(?, true)", (x, state) -> x.setInitial(state, true));
            takesStates("setInitial(?, false)", (x, state) -> x.setInitial(state, false));
        });
        Sentences.promise(7, "`initial`: whether it is initial from now on", () -> {
            AmbiguityAnalyzer x = Due.analyzer(6, "");
            for (boolean initial : new boolean[] {false, true, true, false, false, true}) {
                x.setInitial(5, initial);
                Due.be("initialStates() after " + initial, x.initialStates(), initial ? 32 : 0);
            }
        });
        Sentences.promise(7, "Returns 1 if it was initial before, 0 if not", () -> {
            AmbiguityAnalyzer x = Due.analyzer(6, "0!;5!;>4");
            for (int state : new int[] {0, 5}) {
                Due.be("not before, not now", x.setInitial(state, false), 0);
                Due.be("not before, now", x.setInitial(state, true), 0);
                Due.be("before and now", x.setInitial(state, true), 1);
                Due.be("before, not now", x.setInitial(state, false), 1);
            }
        });
        Sentences.promise(7, "NO_SUCH_ELEMENT if there is no such state.", () -> {
            Refusal.outside("setInitial(?, true)", NO_SUCH_ELEMENT, BUSY, (x, s) -> x.setInitial(s, true), 0, 5);
            Refusal.outside("setInitial(?, false)", NO_SUCH_ELEMENT, BUSY, (x, s) -> x.setInitial(s, false), 0, 5);
        });
    }

    private static void promise8() {
        Sentences.promise(8, "Makes a state final or not.", () -> {
            for (int state = 0; state < 6; state++) {
                AmbiguityAnalyzer x = Due.analyzer(6, "");
                x.setFinal(state, true);
                Due.be("only " + state, x.finalStates(), 1 << state);
                Due.be("none initial", x.initialStates(), 0);
                AmbiguityAnalyzer full = everything();
                full.setFinal(state, false);
                Due.be("all but " + state, full.finalStates(), 63 - (1 << state));
                Due.be("all initial", full.initialStates(), 63);
            }
        });
        Sentences.promise(8, "`state`: the state", () -> {
            takesStates("setFinal(?, true)", (x, state) -> x.setFinal(state, true));
            takesStates("setFinal(?, false)", (x, state) -> x.setFinal(state, false));
        });
        Sentences.promise(8, "`accepts`: whether it is final from now on", () -> {
            AmbiguityAnalyzer x = Due.analyzer(6, "");
            for (boolean accepts : new boolean[] {false, true, true, false, false, true}) {
                x.setFinal(5, accepts);
                Due.be("finalStates() after " + accepts, x.finalStates(), accepts ? 32 : 0);
            }
        });
        Sentences.promise(8, "Returns 1 if it was final before, 0 if not", () -> {
            AmbiguityAnalyzer x = Due.analyzer(6, ">0;>5;4!");
            for (int state : new int[] {0, 5}) {
                Due.be("not before, not now", x.setFinal(state, false), 0);
                Due.be("not before, now", x.setFinal(state, true), 0);
                Due.be("before and now", x.setFinal(state, true), 1);
                Due.be("before, not now", x.setFinal(state, false), 1);
            }
        });
        Sentences.promise(8, "NO_SUCH_ELEMENT if there is no such state.", () -> {
            Refusal.outside("setFinal(?, true)", NO_SUCH_ELEMENT, BUSY, (x, s) -> x.setFinal(s, true), 0, 5);
            Refusal.outside("setFinal(?, false)", NO_SUCH_ELEMENT, BUSY, (x, s) -> x.setFinal(s, false), 0, 5);
        });
    }

    private static void promises9And10() {
        Sentences.promise(9, "Returns the initial states.", () -> {
            Due.be("none of 6", Due.analyzer(6, "0!;5!").initialStates(), 0);
            Due.be("all of 6", Due.analyzer(6, ">0;>1;>2;>3;>4;>5").initialStates(), 63);
            Due.be("the only one", Due.analyzer(1, ">0").initialStates(), 1);
        });
        Sentences.promise(9, "Returns the set of states.", () ->
            Due.be("the first and the last", Due.analyzer(6, ">0;>5;1!").initialStates(), 33));
        Sentences.promise(10, "Returns the final states.", () -> {
            Due.be("none of 6", Due.analyzer(6, ">0;>5").finalStates(), 0);
            Due.be("all of 6", Due.analyzer(6, "0!;1!;2!;3!;4!;5!").finalStates(), 63);
            Due.be("the only one", Due.analyzer(1, "0!").finalStates(), 1);
        });
        Sentences.promise(10, "Returns the set of states.", () ->
            Due.be("the first and the last", Due.analyzer(6, "0!;5!;>1").finalStates(), 33));
    }

    private static void promise11() {
        Sentences.promise(11, "Returns the states to which transitions lead.", () -> {
            AmbiguityAnalyzer x = Due.analyzer(6, "0a5;5c0;1b1;1b2");
            Due.be("successors(0, 0)", x.successors(0, 0), 32);
            Due.be("successors(5, 2)", x.successors(5, 2), 1);
            Due.be("successors(1, 1)", x.successors(1, 1), 6);
            Due.be("successors(2, 1), which is a target only", x.successors(2, 1), 0);
        });
        Sentences.promise(11, "`state`: a state", () ->
            takesStates("successors(?, 0)", (x, state) -> x.successors(state, 0)));
        Sentences.promise(11, "`letter`: the letter, 0 to 2", () ->
            takesLetters("successors(1, ?)", 0, (x, letter) -> x.successors(1, letter)));
        Sentences.promise(11, "Returns the set of the targets of all transitions from the state with the letter", () -> {
            AmbiguityAnalyzer x = everything();
            for (int i = 0; i < 18; i++) {
                Due.be("all of 6", x.successors(i / 3, i % 3), 63);
            }
            AmbiguityAnalyzer y = Due.analyzer(6, "5a0;5a5;5b1;4a2");
            Due.be("the first and the last", y.successors(5, 0), 33);
            Due.be("none", y.successors(5, 2), 0);
        });
        Sentences.promise(11, "NO_SUCH_ELEMENT if there is no such state or letter.", () -> {
            // As cells of one row these would be 0a, 1c and 5a.
            Refusal.is("successors(-1, 3)", NO_SUCH_ELEMENT, BUSY, x -> x.successors(-1, 3));
            Refusal.is("successors(0, 5)", NO_SUCH_ELEMENT, BUSY, x -> x.successors(0, 5));
            Refusal.is("successors(6, -3)", NO_SUCH_ELEMENT, BUSY, x -> x.successors(6, -3));
            Refusal.is("successors(6, 0)", NO_SUCH_ELEMENT, BUSY, x -> x.successors(6, 0));
            Refusal.is("successors(5, 3)", NO_SUCH_ELEMENT, BUSY, x -> x.successors(5, 3));
        });
    }

    private static void promise12() {
        Sentences.promise(12, "Returns the useful states.", () -> {
            Due.be("without initial states", Due.analyzer(2, "0!;1!;0a1").usefulStates(), 0);
            Due.be("without final states", Due.analyzer(2, ">0;>1;0a1").usefulStates(), 0);
            Due.be("without a path", Due.analyzer(2, ">0;1!;1a0").usefulStates(), 0);
            Due.be("an empty path", Due.analyzer(2, ">0;0!;1a0").usefulStates(), 1);
            Due.be("a path of one letter", Due.analyzer(2, ">0;1!;0c1").usefulStates(), 3);
            Due.be("not reached", Due.analyzer(3, ">0;1!;0a1;2a0;2a1").usefulStates(), 3);
            Due.be("a dead end", Due.analyzer(3, ">0;1!;0a1;0a2;1a2;2a2").usefulStates(), 3);
            Due.be("a way round", Due.analyzer(3, ">0;0!;0a1;1b2;2c0").usefulStates(), 7);
        });
        Sentences.promise(12, "Returns the set of states.", () -> {
            Due.be("all, upwards", Due.analyzer(6, ">0;5!;0a1;1b2;2c3;3a4;4b5").usefulStates(), 63);
            Due.be("all, downwards", Due.analyzer(6, ">5;0!;1a0;2b1;3c2;4a3;5b4").usefulStates(), 63);
            Due.be("all, criss-cross", Due.analyzer(6, ">3;2!;3a0;0a5;5a1;1a4;4a2").usefulStates(), 63);
            Due.be("the last but one is missing", Due.analyzer(6, ">3;2!;3a0;0a5;5a1;4a2").usefulStates(), 0);
            Due.be("the last only", Due.analyzer(6, ">5;5!;>0;1!").usefulStates(), 32);
        });
    }

    private static void promise13() {
        Sentences.promise(13, "Removes all states that are not useful, with their transitions.", () -> {
            AmbiguityAnalyzer x = Due.analyzer(6, ">2;3!;2a3;0a2;0b0;2c1;1c1;3a5;5b5;4a0;>1;0!;3c5");
            Due.be("trim()", x.trim(), 2);
            Due.same("the automaton", Observed.automaton(x), Observed.automaton(Due.analyzer(2, ">0;1!;0a1")));
        });
        Sentences.promise(13, "The other states keep their order and get the numbers from 0 on.", () -> {
            AmbiguityAnalyzer x = Due.analyzer(6, ">5;1!;5a3;3b1;3c5;1a1;0a1;4b4");
            Due.be("trim()", x.trim(), 3);
            AmbiguityAnalyzer y = Due.analyzer(3, ">2;0!;2a1;1b0;1c2;0a0");
            Due.same("the automaton", Observed.automaton(x), Observed.automaton(y));
            AmbiguityAnalyzer z = everything();
            String before = Observed.automaton(z);
            Due.be("trim() of useful states only", z.trim(), 6);
            Due.same("the automaton", Observed.automaton(z), before);
        });
        Sentences.promise(13, "If no state is useful, the automaton gets one state, which is neither initial nor final "
            + "and has no transitions.", () -> {
                String[] automata = {">0;>5;0a0;5c5;0a5", "0!;5!;0a0;5c5;0a5", ">0;5!;0a0;5c5;5a0", "0a0", ""};
                for (String items : automata) {
                    AmbiguityAnalyzer x = Due.analyzer(6, items);
                    Due.be("trim() of " + items, x.trim(), 1);
                    Due.same("the automaton", Observed.automaton(x), empty(1));
                }
            });
        Sentences.promise(13, "Returns the new number of states.", () -> {
            Due.be("of one state", new AmbiguityAnalyzer().trim(), 1);
            String items = ">0;0!";
            for (int states = 1; states <= 6; states++) {
                AmbiguityAnalyzer x = Due.analyzer(6, items);
                Due.be("trim() of " + items, x.trim(), states);
                Due.be("stateCount()", x.stateCount(), states);
                items += ";0a" + states + ";" + states + "b0";
            }
        });
    }

    /** The automaton after the draws, computed with longs. */
    private static String drawn(int states, long seed, int count) {
        AmbiguityAnalyzer x = new AmbiguityAnalyzer();
        x.reset(states);
        long state = seed;
        int[] moduli = {states, 3, states};
        for (int i = 0; i < count; i++) {
            int[] draws = new int[3];
            for (int k = 0; k < 3; k++) {
                state = (int) (state * 1103515245L + 12345L);
                draws[k] = (int) ((state & 0xffffffffL) / 65536 % moduli[k]);
            }
            x.addTransition(draws[0], draws[1], draws[2]);
        }
        return Observed.automaton(x);
    }

    private static void draws(int states, int seed, int count) {
        AmbiguityAnalyzer x = new AmbiguityAnalyzer();
        x.reset(states);
        int after = x.randomize(seed, count);
        String call = "randomize(" + seed + ", " + count + ") with " + states + " states";
        Due.same(call, Observed.automaton(x), drawn(states, seed, count));
        Due.be(call, after, x.transitionCount());
    }

    private static void promise14() {
        Sentences.promise(14, "Adds pseudorandom transitions.", () -> {
            AmbiguityAnalyzer x = Due.analyzer(6, ">2;3!;0a0;5c5");
            x.randomize(11, 20);
            Due.be("0a0 stays", x.addTransition(0, 0, 0), 0);
            Due.be("5c5 stays", x.addTransition(5, 2, 5), 0);
            Due.be("initialStates() stay", x.initialStates(), 4);
            Due.be("finalStates() stay", x.finalStates(), 8);
        });
        Sentences.promise(14, "For each transition three numbers are drawn: with n the number of states the state where "
            + "it starts, with n = 3 the letter, with n the number of states the target.", () -> {
                for (int states = 1; states <= 6; states++) {
                    draws(states, 123456, 1);
                    draws(states, -77, 20);
                }
            });
        Sentences.promise(14, "`count`: the number of transitions that are drawn, 0 to 20", () -> {
            AmbiguityAnalyzer x = Due.analyzer(6, "");
            Due.be("randomize(5, 0)", x.randomize(5, 0), 0);
            Due.same("the automaton", Observed.automaton(x), empty(6));
            draws(6, 5, 1);
            draws(6, 5, 19);
            draws(6, 5, 20);
        });
        Sentences.promise(14, "Returns the number of transitions of the automaton afterwards", () -> {
            AmbiguityAnalyzer x = everything();
            Due.be("randomize(3, 0) of a full one", x.randomize(3, 0), 108);
            Due.be("randomize(3, 20) of a full one", x.randomize(3, 20), 108);
            Due.be("one state has room for 3", new AmbiguityAnalyzer().randomize(3, 20), 3);
            Due.be("none", new AmbiguityAnalyzer().randomize(3, 0), 0);
        });
        Sentences.promise(14, "OUT_OF_RANGE if count is out of range.", () ->
            Refusal.outside("randomize(1, ?)", OUT_OF_RANGE, BUSY, (x, count) -> x.randomize(1, count), 0, 20));
    }

    private static void seeds() {
        Sentences.promise(14, "A state x starts as the seed.", () -> {
            for (int seed : new int[] {0, 1, 2, 3, 65535, 65536}) {
                draws(6, seed, 1);
            }
            AmbiguityAnalyzer x = Due.analyzer(6, "");
            x.randomize(9, 2);
            int count = x.transitionCount();
            Due.be("the same seed draws the same again", x.randomize(9, 2), count);
        });
        Sentences.promise(14, "Before each draw it becomes x * 1103515245 + 12345, with int arithmetic that wraps", () -> {
            // Seed 0 becomes 12345, -740551042 and -1492899873, so it draws 0 % 6, 54236 % 3 and 42756 % 6.
            AmbiguityAnalyzer x = Due.analyzer(6, "");
            Due.be("randomize(0, 1)", x.randomize(0, 1), 1);
            Due.be("the transition 0c0", x.successors(0, 2), 1);
            // Seed -1 draws 48697 % 6, 4409 % 3 and 9862 % 6.
            AmbiguityAnalyzer y = Due.analyzer(6, "");
            Due.be("randomize(-1, 1)", y.randomize(-1, 1), 1);
            Due.be("the transition 1c4", y.successors(1, 2), 16);
            draws(6, 1947, 20);
        });
        Sentences.promise(14, "the draw is (x >>> 16) % n.", () -> {
            // After the first step of these seeds x is Integer.MIN_VALUE, Integer.MAX_VALUE, -1 and 0.
            for (int seed : new int[] {2088216195, -1916945634, 230538014, -59267453}) {
                draws(6, seed, 1);
                draws(5, seed, 1);
            }
        });
        Sentences.promise(14, "`seed`: the seed, any int", () -> {
            for (int seed : new int[] {0, 1, -1, Integer.MIN_VALUE, Integer.MAX_VALUE, Integer.MIN_VALUE + 1}) {
                draws(6, seed, 20);
                draws(5, seed, 20);
            }
        });
    }
}
