/** Promises 1 to 14: the automaton itself. */
public final class AutomatonPromisesTest {
    private static final int[] NO_STATES = {-1, 3, 6, 64, Integer.MIN_VALUE, Integer.MAX_VALUE};
    private static final int[] NO_LETTERS = {-1, 3, Integer.MIN_VALUE, Integer.MAX_VALUE};

    public static void main(String[] args) {
        promise1();
        promises2And3();
        promises4To6();
        promises7To10();
        promise11();
        promise12();
        promise13();
        promise14();
        Due.end();
    }

    private static void promise1() {
        AmbiguityAnalyzer x = new AmbiguityAnalyzer();
        Due.be("1: stateCount()", x.stateCount(), 1);
        Due.be("1: initialStates()", x.initialStates(), 0);
        Due.be("1: finalStates()", x.finalStates(), 0);
        Due.be("1: transitionCount()", x.transitionCount(), 0);
        Due.be("1: wordLength()", x.wordLength(), 0);
        Due.be("1: resultStateCount()", x.resultStateCount(), AmbiguityAnalyzer.NONE);
        Due.be("1: restore()", x.restore(), AmbiguityAnalyzer.NONE);
        Due.be("1: parse() of the empty text", x.parse(), -100);
        for (int shelf = 0; shelf < 4; shelf++) {
            Due.be("1: useWord(" + shelf + ")", x.useWord(shelf), AmbiguityAnalyzer.EMPTY_SHELF);
        }
        AmbiguityAnalyzer other = new AmbiguityAnalyzer();
        x.addTransition(0, 0, 0);
        Due.be("1: objects share nothing", other.transitionCount(), 0);
    }

    private static void promises2And3() {
        AmbiguityAnalyzer x = new AmbiguityAnalyzer();
        Due.be("2: reset(6)", x.reset(6), 1);
        Due.be("3: stateCount()", x.stateCount(), 6);
        x.addTransition(5, 2, 5);
        x.setInitial(5, true);
        x.setFinal(4, true);
        for (int wrong : new int[] {0, 7, -1, Integer.MIN_VALUE, Integer.MAX_VALUE}) {
            Due.be("2: reset(" + wrong + ")", x.reset(wrong), AmbiguityAnalyzer.OUT_OF_RANGE);
        }
        Due.be("2: unchanged after errors", x.stateCount() * 100 + x.initialStates(), 632);
        Due.be("2: reset(1)", x.reset(1), 6);
        Due.be("2: reset(6) again", x.reset(6), 1);
        Due.be("2: no transitions", x.transitionCount(), 0);
        Due.be("2: no initial states", x.initialStates(), 0);
        Due.be("2: no final states", x.finalStates(), 0);
        Due.be("2: reset(6) to the same number", x.reset(6), 6);
    }

    private static void promises4To6() {
        AmbiguityAnalyzer x = Due.analyzer(3, "");
        Due.be("6: transitionCount() at first", x.transitionCount(), 0);
        int count = 0;
        for (int p = 0; p < 3; p++) {
            for (int a = 0; a < 3; a++) {
                for (int q = 0; q < 3; q++) {
                    Due.be("4: new", x.addTransition(p, a, q), 1);
                    count++;
                    Due.be("6: transitionCount()", x.transitionCount(), count);
                    Due.be("4: there already", x.addTransition(p, a, q), 0);
                    Due.be("6: once or not at all", x.transitionCount(), count);
                }
            }
        }
        for (int wrong : NO_STATES) {
            Due.be("4: from " + wrong, x.addTransition(wrong, 0, 0), AmbiguityAnalyzer.NO_SUCH_ELEMENT);
            Due.be("4: to " + wrong, x.addTransition(0, 0, wrong), AmbiguityAnalyzer.NO_SUCH_ELEMENT);
            Due.be("5: from " + wrong, x.removeTransition(wrong, 0, 0), AmbiguityAnalyzer.NO_SUCH_ELEMENT);
            Due.be("5: to " + wrong, x.removeTransition(0, 0, wrong), AmbiguityAnalyzer.NO_SUCH_ELEMENT);
        }
        for (int wrong : NO_LETTERS) {
            Due.be("4: letter " + wrong, x.addTransition(0, wrong, 0), AmbiguityAnalyzer.NO_SUCH_ELEMENT);
            Due.be("5: letter " + wrong, x.removeTransition(0, wrong, 0), AmbiguityAnalyzer.NO_SUCH_ELEMENT);
        }
        Due.be("6: unchanged after errors", x.transitionCount(), 27);
        Due.be("5: removeTransition(1, 2, 0)", x.removeTransition(1, 2, 0), 1);
        Due.be("5: removeTransition(1, 2, 0) again", x.removeTransition(1, 2, 0), 0);
        Due.be("5: the others stay", x.successors(1, 2), 6);
        Due.be("6: transitionCount()", x.transitionCount(), 26);
        Due.be("4: addTransition(1, 2, 0)", x.addTransition(1, 2, 0), 1);
        AmbiguityAnalyzer full = Due.analyzer(6, "");
        for (int i = 0; i < 108; i++) {
            full.addTransition(i / 18, i % 3, i / 3 % 6);
        }
        Due.be("6: all transitions", full.transitionCount(), 108);
    }

    private static void promises7To10() {
        AmbiguityAnalyzer x = Due.analyzer(3, "");
        Due.be("7: setInitial(2, true)", x.setInitial(2, true), 0);
        Due.be("7: setInitial(2, true) again", x.setInitial(2, true), 1);
        Due.be("7: setInitial(0, true)", x.setInitial(0, true), 0);
        Due.be("9: initialStates()", x.initialStates(), 5);
        Due.be("10: not final", x.finalStates(), 0);
        Due.be("7: setInitial(2, false)", x.setInitial(2, false), 1);
        Due.be("7: setInitial(2, false) again", x.setInitial(2, false), 0);
        Due.be("9: initialStates()", x.initialStates(), 1);
        Due.be("8: setFinal(1, true)", x.setFinal(1, true), 0);
        Due.be("8: setFinal(1, true) again", x.setFinal(1, true), 1);
        Due.be("8: setFinal(2, true)", x.setFinal(2, true), 0);
        Due.be("10: finalStates()", x.finalStates(), 6);
        Due.be("8: setFinal(1, false)", x.setFinal(1, false), 1);
        Due.be("8: setFinal(1, false) again", x.setFinal(1, false), 0);
        Due.be("10: finalStates()", x.finalStates(), 4);
        for (int wrong : NO_STATES) {
            Due.be("7: " + wrong, x.setInitial(wrong, true), AmbiguityAnalyzer.NO_SUCH_ELEMENT);
            Due.be("7: not " + wrong, x.setInitial(wrong, false), AmbiguityAnalyzer.NO_SUCH_ELEMENT);
            Due.be("8: " + wrong, x.setFinal(wrong, true), AmbiguityAnalyzer.NO_SUCH_ELEMENT);
            Due.be("8: not " + wrong, x.setFinal(wrong, false), AmbiguityAnalyzer.NO_SUCH_ELEMENT);
        }
        Due.be("9: unchanged after errors", x.initialStates(), 1);
        Due.be("10: unchanged after errors", x.finalStates(), 4);
    }

    private static void promise11() {
        AmbiguityAnalyzer x = Due.analyzer(3, "0b1;0b2;2c0;1a1");
        Due.be("11: successors(0, 1)", x.successors(0, 1), 6);
        Due.be("11: successors(0, 0)", x.successors(0, 0), 0);
        Due.be("11: successors(2, 2)", x.successors(2, 2), 1);
        Due.be("11: successors(1, 0)", x.successors(1, 0), 2);
        for (int wrong : NO_STATES) {
            Due.be("11: state " + wrong, x.successors(wrong, 0), AmbiguityAnalyzer.NO_SUCH_ELEMENT);
        }
        for (int wrong : NO_LETTERS) {
            Due.be("11: letter " + wrong, x.successors(0, wrong), AmbiguityAnalyzer.NO_SUCH_ELEMENT);
        }
    }

    private static void promise12() {
        Due.be("12: none", Due.analyzer(6, "0a1;1a0").usefulStates(), 0);
        Due.be("12: no final state", Due.analyzer(2, ">0;0a1").usefulStates(), 0);
        Due.be("12: no initial state", Due.analyzer(2, "1!;0a1").usefulStates(), 0);
        Due.be("12: the empty path", Due.analyzer(2, ">1;1!").usefulStates(), 2);
        Due.be("12: a chain downwards", Due.analyzer(6, ">5;5c4;4b3;3a2;2a1;1c0;0!").usefulStates(), 63);
        Due.be("12: dead ends and unreached states",
            Due.analyzer(6, ">0;0a1;1a2;2!;1b3;4a1;3a3;5!").usefulStates(), 7);
        Due.be("12: no path between", Due.analyzer(4, ">0;3!;0a1;2a3").usefulStates(), 0);
    }

    private static void promise13() {
        AmbiguityAnalyzer x = Due.analyzer(6, ">1;>4;3!;5!;5b5;1a3;3b1;3c3;1a0;0a2;4a3;2a3;1c4");
        Due.be("13: useful", x.usefulStates(), 0b011111);
        x.removeTransition(2, 0, 3);
        Due.be("13: useful", x.usefulStates(), 0b011010);
        Due.be("13: trim()", x.trim(), 3);
        Due.be("13: stateCount()", x.stateCount(), 3);
        Due.be("13: initialStates()", x.initialStates(), 0b101);
        Due.be("13: finalStates()", x.finalStates(), 0b010);
        Due.be("13: transitionCount()", x.transitionCount(), 5);
        Due.be("13: successors(0, 0)", x.successors(0, 0), 0b010);
        Due.be("13: successors(0, 2)", x.successors(0, 2), 0b100);
        Due.be("13: successors(1, 1)", x.successors(1, 1), 0b001);
        Due.be("13: successors(1, 2)", x.successors(1, 2), 0b010);
        Due.be("13: successors(2, 0)", x.successors(2, 0), 0b010);
        Due.be("13: trim() again", x.trim(), 3);
        Due.be("13: reset(6) after it", x.reset(6), 3);
        Due.be("13: nothing is left over", x.transitionCount(), 0);
        AmbiguityAnalyzer none = Due.analyzer(4, ">0;1!;0a0;1b1");
        Due.be("13: trim() without useful states", none.trim(), 1);
        Due.be("13: stateCount()", none.stateCount(), 1);
        Due.be("13: no marks", none.initialStates() + none.finalStates(), 0);
        Due.be("13: no transitions", none.transitionCount(), 0);
        trimLeavesTheRest();
    }

    private static void trimLeavesTheRest() {
        AmbiguityAnalyzer x = Due.analyzer(3, ">0;2!;0a2");
        x.setWeight(0, 7);
        Due.word(x, "abc");
        x.append('>');
        x.keepWord(1);
        Due.be("13: build(0)", x.build(0), 2);
        Due.be("13: trim()", x.trim(), 2);
        Due.be("13: the weights stay", x.setWeight(0, 7), 7);
        Due.be("13: the word stays", x.wordLength(), 3);
        Due.be("13: the text stays", x.append('1'), 2);
        Due.be("13: the text is parsed", x.parse(), 1);
        Due.be("13: the result stays", x.resultStateCount(), 2);
        Due.be("13: the shelves stay", x.shelfElement(1, 2), 2);
    }

    private static void promise14() {
        AmbiguityAnalyzer x = Due.analyzer(6, "");
        // Computed by hand from the rule: the first draws of seed 1 are 16838 % 6, 5758 % 3, ...
        int s = 1;
        int[] drawn = new int[6];
        for (int i = 0; i < 6; i++) {
            s = s * 1103515245 + 12345;
            drawn[i] = (s >>> 16) % (i % 3 == 1 ? 3 : 6);
        }
        Due.be("14: randomize(1, 1)", x.randomize(1, 1), 1);
        Due.be("14: the first one", x.successors(drawn[0], drawn[1]), 1 << drawn[2]);
        Due.be("14: randomize(1, 2)", x.randomize(1, 2), 2);
        Due.be("14: the second one", x.addTransition(drawn[3], drawn[4], drawn[5]), 0);
        Due.be("14: randomize(1, 2) again", x.randomize(1, 2), 2);
        Due.be("14: randomize(9, 0)", x.randomize(9, 0), 2);
        for (int wrong : new int[] {-1, 21, Integer.MIN_VALUE, Integer.MAX_VALUE}) {
            Due.be("14: count " + wrong, x.randomize(1, wrong), AmbiguityAnalyzer.OUT_OF_RANGE);
        }
        Due.be("14: unchanged after errors", x.transitionCount(), 2);
        AmbiguityAnalyzer one = new AmbiguityAnalyzer();
        Due.be("14: one state, three letters", one.randomize(Integer.MIN_VALUE, 20), 3);
        AmbiguityAnalyzer negative = Due.analyzer(5, "");
        Oracle oracle = new Oracle();
        oracle.reset(5);
        for (int seed : new int[] {-1, -123456789, Integer.MAX_VALUE, Integer.MIN_VALUE, 0}) {
            Due.be("14: seed " + seed, negative.randomize(seed, 20), oracle.randomize(seed, 20));
        }
    }
}
