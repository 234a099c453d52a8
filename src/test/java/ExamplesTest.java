/** The four examples of the document, answer by answer. */
public final class ExamplesTest {
    public static void main(String[] args) {
        polynomial();
        emptyWordThenLoop();
        exponential();
        errors();
        Due.end();
    }

    private static void polynomial() {
        AmbiguityAnalyzer x = new AmbiguityAnalyzer();
        Due.be("1: reset(2)", x.reset(2), 1);
        Due.be("1: setInitial(0, true)", x.setInitial(0, true), 0);
        Due.be("1: setFinal(1, true)", x.setFinal(1, true), 0);
        Due.be("1: addTransition(0, 0, 0)", x.addTransition(0, 0, 0), 1);
        Due.be("1: addTransition(0, 0, 1)", x.addTransition(0, 0, 1), 1);
        Due.be("1: addTransition(1, 0, 1)", x.addTransition(1, 0, 1), 1);
        Due.be("1: kind()", x.kind(), 2);
        Due.be("1: degree()", x.degree(), 1);
        Due.be("1: pathsOfLength(3)", x.pathsOfLength(3), 3);
        Due.be("1: wordsOfLength(3)", x.wordsOfLength(3), 1);
        Due.be("1: witnessLength(0)", x.witnessLength(0), 2);
        Due.be("1: witnessState(2)", x.witnessState(2), 1);
    }

    private static void emptyWordThenLoop() {
        AmbiguityAnalyzer x = new AmbiguityAnalyzer();
        Due.be("2: setInitial(0, true)", x.setInitial(0, true), 0);
        Due.be("2: setFinal(0, true)", x.setFinal(0, true), 0);
        Due.be("2: kind()", x.kind(), 0);
        Due.be("2: maximumAmbiguity()", x.maximumAmbiguity(), 1);
        Due.be("2: addTransition(0, 1, 0)", x.addTransition(0, 1, 0), 1);
        Due.be("2: lightestWeight()", x.lightestWeight(), 0);
        Due.be("2: wordsOfLength(5)", x.wordsOfLength(5), 1);
    }

    private static void exponential() {
        AmbiguityAnalyzer x = new AmbiguityAnalyzer();
        Due.be("3: reset(2)", x.reset(2), 1);
        Due.be("3: setInitial(0, true)", x.setInitial(0, true), 0);
        Due.be("3: setFinal(0, true)", x.setFinal(0, true), 0);
        Due.be("3: addTransition(0, 0, 0)", x.addTransition(0, 0, 0), 1);
        Due.be("3: addTransition(0, 0, 1)", x.addTransition(0, 0, 1), 1);
        Due.be("3: addTransition(1, 0, 0)", x.addTransition(1, 0, 0), 1);
        Due.be("3: kind()", x.kind(), 3);
        Due.be("3: degree()", x.degree(), -4);
        Due.be("3: witnessLength(1)", x.witnessLength(1), 2);
        Due.be("3: takeWitness(1)", x.takeWitness(1), 2);
        Due.be("3: wordAmbiguity()", x.wordAmbiguity(), 2);
        Due.be("3: build(1)", x.build(1), 4);
        Due.be("3: resultAmbiguity()", x.resultAmbiguity(), 1);
    }

    private static void errors() {
        AmbiguityAnalyzer x = new AmbiguityAnalyzer();
        Due.be("4: append('0')", x.append('0'), 1);
        Due.be("4: append('a')", x.append('a'), 2);
        Due.be("4: append('1')", x.append('1'), 3);
        Due.be("4: parse()", x.parse(), -102);
        Due.be("4: averageBits(0)", x.averageBits(0), 9221120237041090560L);
        Due.be("4: useWord(0)", x.useWord(0), -7);
        Due.be("4: keepCounts(0, 2)", x.keepCounts(0, 2), 3);
        Due.be("4: useWord(0)", x.useWord(0), -8);
    }
}
