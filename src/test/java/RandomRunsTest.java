import java.util.Random;

/**
 * Runs of nearly 512 calls, drawn with fixed seeds, on the class and on the Oracle side by side; every
 * answer is compared.
 */
public final class RandomRunsTest {
    private static final int METHODS = 46;
    private static final int[] ODD = {
        -1, 0, 1, 2, 3, 4, 5, 6, 7, 8, 20, 21, 30, 31, 60, 61, 63, 64, 100, 101,
        Integer.MAX_VALUE, Integer.MIN_VALUE
    };

    private final AmbiguityAnalyzer x = new AmbiguityAnalyzer();
    private final Oracle y = new Oracle();
    private final Random random;
    private final int seed;
    private int calls = 0;

    private RandomRunsTest(int seed) {
        this.seed = seed;
        random = new Random(seed);
    }

    public static void main(String[] args) {
        int runs = args.length > 0 ? Integer.parseInt(args[0]) : 300;
        int first = args.length > 1 ? Integer.parseInt(args[1]) : 0;
        for (int seed = first; seed < first + runs; seed++) {
            RandomRunsTest run = new RandomRunsTest(seed);
            // An object is good for 512 calls, and the longest of someCalls makes some 70.
            while (run.calls < 440) {
                run.someCalls();
            }
        }
        Due.end();
    }

    private void due(String call, long got, long want) {
        calls++;
        Due.be("seed " + seed + ", call " + calls + ": " + call, got, want);
    }

    private int one(int good) {
        return random.nextInt(12) == 0 ? ODD[random.nextInt(ODD.length)] : random.nextInt(good);
    }

    private int state() {
        return one(y.stateCount());
    }

    private void someCalls() {
        int what = random.nextInt(20);
        if (what == 0) {
            newAutomaton();
        } else if (what == 1) {
            someText();
        } else if (what == 2) {
            someWord();
        } else if (what == 3) {
            wholeResult();
        } else {
            call(random.nextInt(METHODS));
        }
    }

    private void newAutomaton() {
        int states = 1 + random.nextInt(6);
        due("reset", x.reset(states), y.reset(states));
        int count = random.nextInt(21);
        int drawn = random.nextInt();
        due("randomize(" + drawn + ", " + count + ")", x.randomize(drawn, count), y.randomize(drawn, count));
        for (int i = random.nextInt(4); i > 0; i--) {
            call(5);
            call(6);
        }
        if (random.nextInt(3) == 0) {
            call(15 + random.nextInt(9));
        }
    }

    private void someText() {
        StringBuilder text = new StringBuilder();
        for (int i = random.nextInt(9); i >= 0; i--) {
            text.append(text.length() == 0 ? "" : ";");
            char p = (char) ('0' + random.nextInt(y.stateCount()));
            char q = (char) ('0' + random.nextInt(y.stateCount()));
            switch (random.nextInt(4)) {
                case 0:
                    text.append('>').append(p);
                    break;
                case 1:
                    text.append(p).append('!');
                    break;
                default:
                    text.append(p).append((char) ('a' + random.nextInt(3))).append(q);
            }
        }
        if (random.nextInt(2) == 0) {
            String signs = ">!;abcd0123456789 ~";
            int at = random.nextInt(text.length());
            switch (random.nextInt(3)) {
                case 0:
                    text.setLength(at);
                    break;
                case 1:
                    text.deleteCharAt(at);
                    break;
                default:
                    text.setCharAt(at, signs.charAt(random.nextInt(signs.length())));
            }
        }
        for (char c : text.toString().toCharArray()) {
            due("append(" + c + ")", x.append(c), y.append(c));
        }
        due("parse() of " + text, x.parse(), y.parse());
    }

    private void someWord() {
        if (random.nextBoolean()) {
            due("clearWord()", x.clearWord(), y.clearWord());
        }
        for (int i = random.nextInt(9); i > 0; i--) {
            int a = one(3);
            due("appendLetter(" + a + ")", x.appendLetter(a), y.appendLetter(a));
        }
        due("wordAmbiguity()", x.wordAmbiguity(), y.wordAmbiguity());
    }

    private void wholeResult() {
        int construction = one(2);
        due("build(" + construction + ")", x.build(construction), y.build(construction));
        due("resultStateCount()", x.resultStateCount(), y.resultStateCount());
        due("resultInitials()", x.resultInitials(), y.resultInitials());
        due("resultFinals()", x.resultFinals(), y.resultFinals());
        for (int s = random.nextInt(6); s < y.resultStateCount(); s += 1 + random.nextInt(9)) {
            int a = one(3);
            due("resultSuccessors(" + s + ", " + a + ")", x.resultSuccessors(s, a), y.resultSuccessors(s, a));
        }
        due("resultAmbiguity()", x.resultAmbiguity(), y.resultAmbiguity());
    }

    private void call(int method) {
        if (method < 15) {
            callAutomaton(method);
        } else if (method < 30) {
            callAnalysis(method);
        } else {
            callRest(method);
        }
    }

    private void callAutomaton(int method) {
        int p = state();
        int q = state();
        int a = one(3);
        boolean in = random.nextInt(4) != 0;
        String pa = "(" + p + ", " + a;
        switch (method) {
            case 0: {
                int n = ODD[random.nextInt(ODD.length)];
                if (random.nextInt(4) == 0) {
                    due("reset(" + n + ")", x.reset(n), y.reset(n));
                }
                break;
            }
            case 1: due("stateCount()", x.stateCount(), y.stateCount()); break;
            case 2: due("addTransition" + pa + ", " + q + ")", x.addTransition(p, a, q), y.addTransition(p, a, q)); break;
            case 3: due("removeTransition" + pa + ", " + q + ")", x.removeTransition(p, a, q), y.removeTransition(p, a, q)); break;
            case 4: due("transitionCount()", x.transitionCount(), y.transitionCount()); break;
            case 5: due("setInitial(" + p + ", " + in + ")", x.setInitial(p, in), y.setInitial(p, in)); break;
            case 6: due("setFinal(" + p + ", " + in + ")", x.setFinal(p, in), y.setFinal(p, in)); break;
            case 7: due("initialStates()", x.initialStates(), y.initialStates()); break;
            case 8: due("finalStates()", x.finalStates(), y.finalStates()); break;
            case 9: due("successors" + pa + ")", x.successors(p, a), y.successors(p, a)); break;
            case 10: due("usefulStates()", x.usefulStates(), y.usefulStates()); break;
            case 11: due("trim()", x.trim(), y.trim()); break;
            case 12: {
                int drawn = random.nextInt();
                int count = one(8);
                due("randomize(" + drawn + ", " + count + ")", x.randomize(drawn, count), y.randomize(drawn, count));
                break;
            }
            case 13: {
                int c = ODD[random.nextInt(ODD.length)];
                due("append(" + c + ")", x.append(c), y.append(c));
                break;
            }
            default: due("parse()", x.parse(), y.parse());
        }
    }

    private void callAnalysis(int method) {
        int p = state();
        int q = state();
        int w = one(4);
        int i = one(5);
        int length = random.nextBoolean() ? one(61) : random.nextInt(12);
        switch (method) {
            case 15: due("kind()", x.kind(), y.kind()); break;
            case 16: due("degree()", x.degree(), y.degree()); break;
            case 17: due("maximumAmbiguity()", x.maximumAmbiguity(), y.maximumAmbiguity()); break;
            case 18: due("isLoopState(" + p + ")", x.isLoopState(p), y.isLoopState(p)); break;
            case 19: due("isSplitPair(" + p + ", " + q + ")", x.isSplitPair(p, q), y.isSplitPair(p, q)); break;
            case 20: due("witnessState(" + w + ")", x.witnessState(w), y.witnessState(w)); break;
            case 21: due("witnessLength(" + w + ")", x.witnessLength(w), y.witnessLength(w)); break;
            case 22: due("witnessLetter(" + w + ", " + i + ")", x.witnessLetter(w, i), y.witnessLetter(w, i)); break;
            case 23: due("takeWitness(" + w + ")", x.takeWitness(w), y.takeWitness(w)); break;
            case 24: due("lightestWeight()", x.lightestWeight(), y.lightestWeight()); break;
            case 25: {
                int a = one(3);
                int weight = random.nextBoolean() ? one(101) : random.nextInt(4);
                due("setWeight(" + a + ", " + weight + ")", x.setWeight(a, weight), y.setWeight(a, weight));
                break;
            }
            case 26: due("pathsOfLength(" + length + ")", x.pathsOfLength(length), y.pathsOfLength(length)); break;
            case 27: due("wordsOfLength(" + length + ")", x.wordsOfLength(length), y.wordsOfLength(length)); break;
            case 28: due("averageBits(" + length + ")", x.averageBits(length), y.averageBits(length)); break;
            default: due("wordAmbiguity()", x.wordAmbiguity(), y.wordAmbiguity());
        }
    }

    private void callRest(int method) {
        int s = one(4);
        int i = one(8);
        int a = one(3);
        switch (method) {
            case 30: due("wordLength()", x.wordLength(), y.wordLength()); break;
            case 31: due("wordLetter(" + i + ")", x.wordLetter(i), y.wordLetter(i)); break;
            case 32: due("appendLetter(" + a + ")", x.appendLetter(a), y.appendLetter(a)); break;
            case 33: due("clearWord()", x.clearWord(), y.clearWord()); break;
            case 34: due("resultStateCount()", x.resultStateCount(), y.resultStateCount()); break;
            case 35: due("resultInitials()", x.resultInitials(), y.resultInitials()); break;
            case 36: due("resultFinals()", x.resultFinals(), y.resultFinals()); break;
            case 37: due("resultSuccessors(" + i + ", " + a + ")", x.resultSuccessors(i, a), y.resultSuccessors(i, a)); break;
            case 38: due("resultAmbiguity()", x.resultAmbiguity(), y.resultAmbiguity()); break;
            case 39: due("build(" + s + ")", x.build(s), y.build(s)); break;
            case 40: due("keepWord(" + s + ")", x.keepWord(s), y.keepWord(s)); break;
            case 41: {
                int length = one(31);
                due("keepCounts(" + s + ", " + length + ")", x.keepCounts(s, length), y.keepCounts(s, length));
                break;
            }
            case 42: due("useWord(" + s + ")", x.useWord(s), y.useWord(s)); break;
            case 43: due("shelfElement(" + s + ", " + i + ")", x.shelfElement(s, i), y.shelfElement(s, i)); break;
            case 44: due("save()", x.save(), y.save()); break;
            default: due("restore()", x.restore(), y.restore());
        }
    }
}
