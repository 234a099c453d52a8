import java.util.ArrayList;
import java.util.Collections;
import java.util.List;
import java.util.Random;

/**
 * Many automata of different shapes, drawn with fixed seeds; everything that the class tells about each
 * of them is compared with the Oracle. At the end it is checked that all the rare answers came up.
 */
public final class AutomataTest {
    private static final int[] kinds = new int[4];
    private static final int[] degrees = new int[6];
    private static int overflows = 0;
    private static int tooLarge = 0;
    private static int tooManyRows = 0;
    private static long highest = 0;

    public static void main(String[] args) {
        int runs = args.length > 0 ? Integer.parseInt(args[0]) : 4000;
        int first = args.length > 1 ? Integer.parseInt(args[1]) : 0;
        for (int seed = first; seed < first + runs; seed++) {
            compare(seed);
        }
        System.out.println("kinds " + kinds[0] + " " + kinds[1] + " " + kinds[2] + " " + kinds[3]
            + ", degrees " + degrees[1] + " " + degrees[2] + " " + degrees[3] + " " + degrees[4] + " " + degrees[5]
            + ", overflows " + overflows + ", too large " + tooLarge + ", too many rows " + tooManyRows
            + ", highest ambiguity " + highest);
        for (int i = 0; i < 4; i++) {
            Due.be("kind " + i + " came up", kinds[i] > 0);
            Due.be("degree " + (i + 1) + " came up", degrees[i + 1] > 0);
        }
        Due.be("too many rows came up", tooManyRows > 0);
        Due.be("overflows came up", overflows > 0);
        Due.be("results that are too large came up", tooLarge > 0);
        Due.end();
    }

    private static void compare(int seed) {
        Random random = new Random(seed);
        AmbiguityAnalyzer x = new AmbiguityAnalyzer();
        Oracle y = new Oracle();
        fill(x, y, random);
        compareAnalysis("seed " + seed + ": ", x, y);
        compareCounts("seed " + seed + ": ", x, y, random);
        compareWitnesses("seed " + seed + ": ", x, y, random);
        Due.be("seed " + seed + ": trim()", x.trim(), y.trim());
        Due.be("seed " + seed + ": transitionCount()", x.transitionCount(), y.transitionCount());
        // An object is good for 512 calls only, so each result has a new one.
        for (int construction = 0; construction < 2; construction++) {
            AmbiguityAnalyzer other = new AmbiguityAnalyzer();
            Oracle otherOracle = new Oracle();
            fill(other, otherOracle, new Random(seed));
            compareResult("seed " + seed + ": ", other, otherOracle, construction, random);
        }
    }

    private static void fill(AmbiguityAnalyzer x, Oracle y, Random random) {
        int n = random.nextInt(3) == 0 ? 1 + random.nextInt(6) : 4 + random.nextInt(3);
        x.reset(n);
        y.reset(n);
        int shape = random.nextInt(5);
        int letters = 1 + random.nextInt(3);
        int extra = random.nextInt(shape == 0 ? 3 * n + 1 : 4);
        for (int s = 0; shape == 1 && s < n; s++) {
            // Loops along a chain: polynomial growth.
            addBoth(x, y, s, 0, s);
            addBoth(x, y, s, random.nextInt(letters), Math.min(n - 1, s + 1));
        }
        for (int a = 0; shape == 2 && a < letters; a++) {
            // A permutation for each letter: long words before something happens.
            int shift = random.nextInt(n);
            int swap = random.nextInt(n);
            for (int s = 0; s < n; s++) {
                int t = random.nextBoolean() || a == 0 ? (s + shift) % n : s == swap ? 0 : s == 0 ? swap : s;
                addBoth(x, y, s, a, t);
            }
        }
        for (int i = 0; shape == 3 && i < 3 * n; i++) {
            // Upwards only: finite or polynomial growth.
            int s = random.nextInt(n);
            addBoth(x, y, s, random.nextInt(letters), s + random.nextInt(n - s));
        }
        if (shape == 4) {
            addMaps(x, y, n, random);
        }
        for (int i = 0; shape != 4 && i < extra; i++) {
            addBoth(x, y, random.nextInt(n), random.nextInt(letters), random.nextInt(n));
        }
        for (int i = random.nextInt(3); i >= 0; i--) {
            int s = shape == 0 ? random.nextInt(n) : i;
            int t = shape == 0 ? random.nextInt(n) : n - 1 - i;
            Due.be("setInitial", x.setInitial(s, true), y.setInitial(s, true));
            Due.be("setFinal", x.setFinal(t, true), y.setFinal(t, true));
        }
    }

    /**
     * Two permutations and a map of all states but one, which leads to many others: often there are
     * hundreds of different rows, and sometimes too many.
     */
    private static void addMaps(AmbiguityAnalyzer x, Oracle y, int n, Random random) {
        int start = random.nextInt(n);
        List<Integer> others = new ArrayList<>();
        for (int s = 0; s < n; s++) {
            if (s != start) {
                others.add(s);
            }
            Due.be("setInitial", x.setInitial(s, true), y.setInitial(s, true));
        }
        List<Integer> images = new ArrayList<>(others);
        for (int a = 0; a < 3; a++) {
            Collections.shuffle(images, random);
            for (int i = 0; i < others.size(); i++) {
                addBoth(x, y, others.get(i), a, images.get(a == 2 && i == 0 ? others.size() - 1 : i));
                if (random.nextBoolean()) {
                    addBoth(x, y, start, a, others.get(i));
                }
            }
        }
    }

    private static void addBoth(AmbiguityAnalyzer x, Oracle y, int s, int a, int t) {
        Due.be("addTransition", x.addTransition(s, a, t), y.addTransition(s, a, t));
    }

    private static void compareAnalysis(String at, AmbiguityAnalyzer x, Oracle y) {
        int kind = x.kind();
        Due.be(at + "kind()", kind, y.kind());
        if (kind >= 0 && kind < 4) {
            kinds[kind]++;
        }
        int degree = x.degree();
        Due.be(at + "degree()", degree, y.degree());
        if (degree > 0 && degree < 6) {
            degrees[degree]++;
        }
        long maximum = x.maximumAmbiguity();
        Due.be(at + "maximumAmbiguity()", maximum, y.maximumAmbiguity());
        highest = Math.max(highest, maximum);
        tooManyRows += maximum == -5 ? 1 : 0;
        Due.be(at + "usefulStates()", x.usefulStates(), y.usefulStates());
        for (int p = 0; p < y.stateCount(); p++) {
            Due.be(at + "isLoopState(" + p + ")", x.isLoopState(p), y.isLoopState(p));
            for (int q = 0; q < y.stateCount(); q++) {
                Due.be(at + "isSplitPair(" + p + ", " + q + ")", x.isSplitPair(p, q), y.isSplitPair(p, q));
            }
        }
    }

    private static void compareCounts(String at, AmbiguityAnalyzer x, Oracle y, Random random) {
        for (int length = 0; length <= 60; length += 1 + random.nextInt(9)) {
            long paths = x.pathsOfLength(length);
            overflows += paths == -6 ? 1 : 0;
            Due.be(at + "pathsOfLength(" + length + ")", paths, y.pathsOfLength(length));
            Due.be(at + "wordsOfLength(" + length + ")", x.wordsOfLength(length), y.wordsOfLength(length));
            Due.be(at + "averageBits(" + length + ")", x.averageBits(length), y.averageBits(length));
        }
    }

    private static void compareWitnesses(String at, AmbiguityAnalyzer x, Oracle y, Random random) {
        for (int a = 0; a < 3; a++) {
            int weight = random.nextInt(random.nextBoolean() ? 3 : 101);
            Due.be(at + "setWeight", x.setWeight(a, weight), y.setWeight(a, weight));
        }
        Due.be(at + "lightestWeight()", x.lightestWeight(), y.lightestWeight());
        for (int w = 0; w < 4; w++) {
            int length = x.witnessLength(w);
            Due.be(at + "witnessState(" + w + ")", x.witnessState(w), y.witnessState(w));
            Due.be(at + "witnessLength(" + w + ")", length, y.witnessLength(w));
            for (int i = -1; i <= length; i++) {
                Due.be(at + "witnessLetter(" + w + ", " + i + ")", x.witnessLetter(w, i), y.witnessLetter(w, i));
            }
            Due.be(at + "takeWitness(" + w + ")", x.takeWitness(w), y.takeWitness(w));
            Due.be(at + "wordAmbiguity()", x.wordAmbiguity(), y.wordAmbiguity());
        }
    }

    private static void compareResult(String at, AmbiguityAnalyzer x, Oracle y, int construction, Random random) {
        int states = x.build(construction);
        tooLarge += states == -5 ? 1 : 0;
        Due.be(at + "build(" + construction + ")", states, y.build(construction));
        Due.be(at + "resultInitials()", x.resultInitials(), y.resultInitials());
        Due.be(at + "resultFinals()", x.resultFinals(), y.resultFinals());
        for (int i = 0; i < 65 * 3; i++) {
            String call = "resultSuccessors(" + i / 3 + ", " + i % 3 + ")";
            Due.be(at + call, x.resultSuccessors(i / 3, i % 3), y.resultSuccessors(i / 3, i % 3));
        }
        for (int i = 0; i < 5; i++) {
            x.clearWord();
            y.clearWord();
            for (int k = random.nextInt(12); k > 0; k--) {
                int a = random.nextInt(3);
                Due.be(at + "appendLetter", x.appendLetter(a), y.appendLetter(a));
            }
            Due.be(at + "resultAmbiguity()", x.resultAmbiguity(), y.resultAmbiguity());
            Due.be(at + "accepted alike", states < 0 || x.resultAmbiguity() == Math.min(1, x.wordAmbiguity()));
        }
    }
}
