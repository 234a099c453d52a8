import java.math.BigInteger;
import java.util.ArrayList;
import java.util.Arrays;
import java.util.Comparator;
import java.util.HashMap;
import java.util.HashSet;
import java.util.LinkedHashMap;
import java.util.List;
import java.util.Map;
import java.util.PriorityQueue;
import java.util.Set;
import java.util.TreeSet;

/**
 * The document in the plainest words of the Java library, for comparison. It goes other ways than the
 * class: BigIntegers for counts, pairs and triples of states for ambiguity, maps for constructions.
 */
final class Oracle {
    private static final BigInteger MAX = BigInteger.valueOf(Long.MAX_VALUE);

    private static final class Machine {
        int n = 1;
        Set<Integer> initial = new TreeSet<>();
        Set<Integer> fin = new TreeSet<>();
        /** Transitions as from * 100 + letter * 10 + to. */
        Set<Integer> transitions = new TreeSet<>();

        Machine copy() {
            Machine m = new Machine();
            m.n = n;
            m.initial.addAll(initial);
            m.fin.addAll(fin);
            m.transitions.addAll(transitions);
            return m;
        }

        boolean has(int from, int letter, int to) {
            return transitions.contains(from * 100 + letter * 10 + to);
        }

        List<Integer> targets(int from, int letter) {
            List<Integer> list = new ArrayList<>();
            for (int t = 0; t < n; t++) {
                if (has(from, letter, t)) {
                    list.add(t);
                }
            }
            return list;
        }

        /** Whether a path leads from one state to another, with at least the given number of steps. */
        boolean path(int from, int to) {
            Set<Integer> seen = new HashSet<>();
            List<Integer> todo = new ArrayList<>(List.of(from));
            while (!todo.isEmpty()) {
                int s = todo.remove(todo.size() - 1);
                if (seen.add(s)) {
                    for (int t : transitions) {
                        if (t / 100 == s) {
                            todo.add(t % 10);
                        }
                    }
                }
            }
            return seen.contains(to);
        }

        boolean useful(int s) {
            boolean before = false;
            boolean after = false;
            for (int i : initial) {
                before |= path(i, s);
            }
            for (int f : fin) {
                after |= path(s, f);
            }
            return before && after;
        }
    }

    private static final class Built {
        List<Integer> initials = new ArrayList<>();
        List<Integer> finals = new ArrayList<>();
        List<List<List<Integer>>> next = new ArrayList<>();

        int size() {
            return next.size();
        }
    }

    private Machine m = new Machine();
    private Machine savedMachine = null;
    private int[] weights = {1, 1, 1};
    private int[] savedWeights = null;
    private String text = "";
    private String word = "";
    private Built built = null;
    /** A String for a word, a long[] for a row, null for nothing. */
    private final Object[] shelves = new Object[4];

    // ---- the automaton ----

    private boolean state(int s) {
        return 0 <= s && s < m.n;
    }

    private static boolean letter(int a) {
        return 0 <= a && a <= 2;
    }

    private static int mask(Iterable<Integer> states) {
        int set = 0;
        for (int s : states) {
            set += 1 << s;
        }
        return set;
    }

    int reset(int states) {
        if (states < 1 || states > 6) {
            return -2;
        }
        int previous = m.n;
        m = new Machine();
        m.n = states;
        return previous;
    }

    int stateCount() {
        return m.n;
    }

    int addTransition(int from, int letter, int to) {
        if (!state(from) || !letter(letter) || !state(to)) {
            return -1;
        }
        return m.transitions.add(from * 100 + letter * 10 + to) ? 1 : 0;
    }

    int removeTransition(int from, int letter, int to) {
        if (!state(from) || !letter(letter) || !state(to)) {
            return -1;
        }
        return m.transitions.remove(from * 100 + letter * 10 + to) ? 1 : 0;
    }

    int transitionCount() {
        return m.transitions.size();
    }

    private int mark(Set<Integer> set, int s, boolean in) {
        if (!state(s)) {
            return -1;
        }
        int before = set.contains(s) ? 1 : 0;
        if (in) {
            set.add(s);
        } else {
            set.remove(s);
        }
        return before;
    }

    int setInitial(int s, boolean initial) {
        return mark(m.initial, s, initial);
    }

    int setFinal(int s, boolean accepts) {
        return mark(m.fin, s, accepts);
    }

    int initialStates() {
        return mask(m.initial);
    }

    int finalStates() {
        return mask(m.fin);
    }

    int successors(int s, int letter) {
        return state(s) && letter(letter) ? mask(m.targets(s, letter)) : -1;
    }

    private List<Integer> useful() {
        List<Integer> list = new ArrayList<>();
        for (int s = 0; s < m.n; s++) {
            if (m.useful(s)) {
                list.add(s);
            }
        }
        return list;
    }

    int usefulStates() {
        return mask(useful());
    }

    int trim() {
        List<Integer> kept = useful();
        Machine trimmed = new Machine();
        trimmed.n = Math.max(1, kept.size());
        for (int i = 0; i < kept.size(); i++) {
            if (m.initial.contains(kept.get(i))) {
                trimmed.initial.add(i);
            }
            if (m.fin.contains(kept.get(i))) {
                trimmed.fin.add(i);
            }
        }
        for (int t : m.transitions) {
            int from = kept.indexOf(t / 100);
            int to = kept.indexOf(t % 10);
            if (from >= 0 && to >= 0) {
                trimmed.transitions.add(from * 100 + t / 10 % 10 * 10 + to);
            }
        }
        m = trimmed;
        return m.n;
    }

    int randomize(int seed, int count) {
        if (count < 0 || count > 20) {
            return -2;
        }
        int x = seed;
        for (int i = 0; i < count; i++) {
            int[] drawn = new int[3];
            int[] n = {m.n, 3, m.n};
            for (int k = 0; k < 3; k++) {
                x = x * 1103515245 + 12345;
                drawn[k] = (x >>> 16) % n[k];
            }
            m.transitions.add(drawn[0] * 100 + drawn[1] * 10 + drawn[2]);
        }
        return m.transitions.size();
    }

    // ---- text ----

    int append(int c) {
        if (c < 32 || c > 126) {
            return -2;
        }
        if (text.length() == 60) {
            return -3;
        }
        text += (char) c;
        return text.length();
    }

    int parse() {
        String d = "[0-" + (char) ('0' + m.n - 1) + "]";
        String item = "(>" + d + "|" + d + "!|" + d + "[abc]" + d + ")";
        String whole = item + "(;" + item + ")*";
        String t = text;
        text = "";
        if (t.matches(whole)) {
            String[] items = t.split(";");
            for (String one : items) {
                if (one.charAt(0) == '>') {
                    m.initial.add(one.charAt(1) - '0');
                } else if (one.charAt(1) == '!') {
                    m.fin.add(one.charAt(0) - '0');
                } else {
                    addTransition(one.charAt(0) - '0', one.charAt(1) - 'a', one.charAt(2) - '0');
                }
            }
            return items.length;
        }
        // The longest prefix that some completion turns into a text of the grammar.
        String[] endings = {"", "0", "a0", "0a0", "!", ">0"};
        int good = 0;
        for (int length = 0; length <= t.length(); length++) {
            boolean viable = false;
            for (String ending : endings) {
                viable |= (t.substring(0, length) + ending).matches(whole);
            }
            if (viable) {
                good = length;
            }
        }
        return -100 - good;
    }

    // ---- word ----

    int appendLetter(int a) {
        if (!letter(a)) {
            return -1;
        }
        if (word.length() == 20) {
            return -3;
        }
        word += (char) ('a' + a);
        return word.length();
    }

    int clearWord() {
        int length = word.length();
        word = "";
        return length;
    }

    int wordLength() {
        return word.length();
    }

    int wordLetter(int i) {
        return 0 <= i && i < word.length() ? word.charAt(i) - 'a' : -1;
    }

    long wordAmbiguity() {
        return ambiguity(word).longValueExact();
    }

    BigInteger ambiguity(String w) {
        BigInteger sum = BigInteger.ZERO;
        Map<Integer, BigInteger> memo = new HashMap<>();
        for (int i : m.initial) {
            sum = sum.add(pathsFrom(i, w, 0, memo));
        }
        return sum;
    }

    private BigInteger pathsFrom(int s, String w, int at, Map<Integer, BigInteger> memo) {
        if (at == w.length()) {
            return m.fin.contains(s) ? BigInteger.ONE : BigInteger.ZERO;
        }
        BigInteger known = memo.get(at * 10 + s);
        if (known == null) {
            known = BigInteger.ZERO;
            for (int t : m.targets(s, w.charAt(at) - 'a')) {
                known = known.add(pathsFrom(t, w, at + 1, memo));
            }
            memo.put(at * 10 + s, known);
        }
        return known;
    }

    // ---- counts ----

    private BigInteger paths(int length) {
        // From the end: the number of ways from each state into a final one.
        BigInteger[] ways = new BigInteger[m.n];
        for (int s = 0; s < m.n; s++) {
            ways[s] = m.fin.contains(s) ? BigInteger.ONE : BigInteger.ZERO;
        }
        for (int i = 0; i < length; i++) {
            BigInteger[] more = new BigInteger[m.n];
            Arrays.fill(more, BigInteger.ZERO);
            for (int t : m.transitions) {
                more[t / 100] = more[t / 100].add(ways[t % 10]);
            }
            ways = more;
        }
        BigInteger sum = BigInteger.ZERO;
        for (int i : m.initial) {
            sum = sum.add(ways[i]);
        }
        return sum;
    }

    private BigInteger words(int length) {
        Map<Set<Integer>, BigInteger> counts = new HashMap<>();
        counts.put(new TreeSet<>(m.initial), BigInteger.ONE);
        for (int i = 0; i < length; i++) {
            Map<Set<Integer>, BigInteger> more = new HashMap<>();
            for (Map.Entry<Set<Integer>, BigInteger> entry : counts.entrySet()) {
                for (int a = 0; a < 3; a++) {
                    Set<Integer> set = new TreeSet<>();
                    for (int s : entry.getKey()) {
                        set.addAll(m.targets(s, a));
                    }
                    more.merge(set, entry.getValue(), BigInteger::add);
                }
            }
            counts = more;
        }
        BigInteger sum = BigInteger.ZERO;
        for (Map.Entry<Set<Integer>, BigInteger> entry : counts.entrySet()) {
            for (int f : m.fin) {
                if (entry.getKey().contains(f)) {
                    sum = sum.add(entry.getValue());
                    break;
                }
            }
        }
        return sum;
    }

    private static long asLong(BigInteger number) {
        return number.compareTo(MAX) > 0 ? -6 : number.longValueExact();
    }

    long pathsOfLength(int length) {
        return length < 0 || length > 60 ? -2 : asLong(paths(length));
    }

    long wordsOfLength(int length) {
        return length < 0 || length > 60 ? -2 : asLong(words(length));
    }

    long averageBits(int length) {
        if (length < 0 || length > 60) {
            return -2;
        }
        long p = asLong(paths(length));
        long w = asLong(words(length));
        if (p < 0 || w < 0) {
            return -6;
        }
        return Double.doubleToLongBits(w == 0 ? Double.NaN : (double) p / (double) w);
    }

    // ---- products of states ----

    /** Steps of all numbers of a tuple with one letter at once. */
    private List<List<Integer>> tupleSteps(List<Integer> tuple, int a) {
        List<List<Integer>> result = new ArrayList<>();
        result.add(new ArrayList<>());
        for (int s : tuple) {
            List<List<Integer>> longer = new ArrayList<>();
            for (List<Integer> begun : result) {
                for (int t : m.targets(s, a)) {
                    List<Integer> one = new ArrayList<>(begun);
                    one.add(t);
                    longer.add(one);
                }
            }
            result = longer;
        }
        return result;
    }

    /** The nodes after a node: a tuple of states, behind it 1 if its first two paths have differed. */
    private List<List<Integer>> steps(List<Integer> node, int a) {
        int last = node.size() - 1;
        List<List<Integer>> result = new ArrayList<>();
        for (List<Integer> tuple : tupleSteps(node.subList(0, last), a)) {
            int differs = node.get(last) == 1 || !tuple.get(0).equals(tuple.get(1)) ? 1 : 0;
            tuple.add(differs);
            result.add(tuple);
        }
        return result;
    }

    /** The first word of a path from one of the nodes to a goal, null if there is none. */
    private String firstWord(Set<List<Integer>> starts, Set<List<Integer>> goals) {
        Map<List<Integer>, List<List<Integer>>> before = new HashMap<>();
        Set<List<Integer>> seen = new HashSet<>(starts);
        List<List<Integer>> todo = new ArrayList<>(starts);
        for (int i = 0; i < todo.size(); i++) {
            for (int a = 0; a < 3; a++) {
                for (List<Integer> next : steps(todo.get(i), a)) {
                    before.computeIfAbsent(next, k -> new ArrayList<>()).add(todo.get(i));
                    if (seen.add(next)) {
                        todo.add(next);
                    }
                }
            }
        }
        Map<List<Integer>, Integer> far = new HashMap<>();
        List<List<Integer>> back = new ArrayList<>();
        for (List<Integer> goal : goals) {
            if (seen.contains(goal)) {
                far.put(goal, 0);
                back.add(goal);
            }
        }
        for (int i = 0; i < back.size(); i++) {
            for (List<Integer> previous : before.getOrDefault(back.get(i), List.of())) {
                if (!far.containsKey(previous)) {
                    far.put(previous, far.get(back.get(i)) + 1);
                    back.add(previous);
                }
            }
        }
        int best = Integer.MAX_VALUE;
        for (List<Integer> start : starts) {
            best = Math.min(best, far.getOrDefault(start, Integer.MAX_VALUE));
        }
        return best == Integer.MAX_VALUE ? null : walk(starts, far, best);
    }

    private String walk(Set<List<Integer>> starts, Map<List<Integer>, Integer> far, int best) {
        Set<List<Integer>> now = new HashSet<>();
        for (List<Integer> start : starts) {
            if (far.getOrDefault(start, -1) == best) {
                now.add(start);
            }
        }
        StringBuilder letters = new StringBuilder();
        for (int left = best - 1; left >= 0; left--) {
            for (int a = 0; a < 3; a++) {
                Set<List<Integer>> next = new HashSet<>();
                for (List<Integer> node : now) {
                    for (List<Integer> target : steps(node, a)) {
                        if (far.getOrDefault(target, -1) == left) {
                            next.add(target);
                        }
                    }
                }
                if (!next.isEmpty()) {
                    letters.append((char) ('a' + a));
                    now = next;
                    break;
                }
            }
        }
        return letters.toString();
    }

    private String ambiguousWord() {
        Set<List<Integer>> starts = new HashSet<>();
        Set<List<Integer>> goals = new HashSet<>();
        for (int i : m.initial) {
            for (int j : m.initial) {
                starts.add(List.of(i, j, i == j ? 0 : 1));
            }
        }
        for (int f : m.fin) {
            for (int g : m.fin) {
                goals.add(List.of(f, g, 1));
            }
        }
        return firstWord(starts, goals);
    }

    private String loopWord(int s) {
        return m.useful(s) ? firstWord(Set.of(List.of(s, s, 0)), Set.of(List.of(s, s, 1))) : null;
    }

    private String splitWord(int p, int q) {
        if (p == q || !m.useful(p) || !m.useful(q)) {
            return null;
        }
        return firstWord(Set.of(List.of(p, p, q, 0)), Set.of(List.of(p, q, q, 1)));
    }

    private int lowestLoopState() {
        for (int s = 0; s < m.n; s++) {
            if (loopWord(s) != null) {
                return s;
            }
        }
        return -4;
    }

    private int firstSplitPair() {
        for (int p = 0; p < m.n; p++) {
            for (int q = 0; q < m.n; q++) {
                if (splitWord(p, q) != null) {
                    return 8 * p + q;
                }
            }
        }
        return -4;
    }

    int kind() {
        if (ambiguousWord() == null) {
            return 0;
        }
        return lowestLoopState() >= 0 ? 3 : firstSplitPair() >= 0 ? 2 : 1;
    }

    int degree() {
        int kind = kind();
        if (kind != 2) {
            return kind == 3 ? -4 : 0;
        }
        List<int[]> pairs = new ArrayList<>();
        for (int p = 0; p < m.n; p++) {
            for (int q = 0; q < m.n; q++) {
                if (splitWord(p, q) != null) {
                    pairs.add(new int[] {p, q});
                }
            }
        }
        boolean[][] path = new boolean[m.n][m.n];
        for (int s = 0; s < m.n; s++) {
            for (int t = 0; t < m.n; t++) {
                path[s][t] = m.path(s, t);
            }
        }
        int best = 0;
        for (int[] pair : pairs) {
            best = Math.max(best, chain(pair, pairs, path));
        }
        return best;
    }

    private int chain(int[] first, List<int[]> pairs, boolean[][] path) {
        int best = 1;
        for (int[] pair : pairs) {
            if (path[first[1]][pair[0]]) {
                best = Math.max(best, 1 + chain(pair, pairs, path));
            }
        }
        return best;
    }

    /** The number of different rows, at most limit + 1. */
    int countRows(int limit) {
        return rows(limit).size();
    }

    private List<List<BigInteger>> rows(int limit) {
        List<Integer> useful = useful();
        List<BigInteger> first = new ArrayList<>();
        for (int s : useful) {
            first.add(m.initial.contains(s) ? BigInteger.ONE : BigInteger.ZERO);
        }
        List<List<BigInteger>> rows = new ArrayList<>(List.of(first));
        Set<List<BigInteger>> seen = new HashSet<>(rows);
        for (int i = 0; i < rows.size() && rows.size() <= limit; i++) {
            for (int a = 0; a < 3; a++) {
                List<BigInteger> next = new ArrayList<>();
                for (int t : useful) {
                    BigInteger sum = BigInteger.ZERO;
                    for (int k = 0; k < useful.size(); k++) {
                        if (m.has(useful.get(k), a, t)) {
                            sum = sum.add(rows.get(i).get(k));
                        }
                    }
                    next.add(sum);
                }
                if (seen.add(next)) {
                    rows.add(next);
                }
            }
        }
        return rows;
    }

    long maximumAmbiguity() {
        if (kind() >= 2) {
            return -4;
        }
        List<List<BigInteger>> rows = rows(1000);
        if (rows.size() > 1000) {
            return -5;
        }
        List<Integer> useful = useful();
        long best = 0;
        for (List<BigInteger> row : rows) {
            long sum = 0;
            for (int k = 0; k < useful.size(); k++) {
                if (m.fin.contains(useful.get(k))) {
                    sum += row.get(k).longValueExact();
                }
            }
            best = Math.max(best, sum);
        }
        return best;
    }

    int isLoopState(int s) {
        return !state(s) ? -1 : loopWord(s) != null ? 1 : 0;
    }

    int isSplitPair(int p, int q) {
        return !state(p) || !state(q) ? -1 : splitWord(p, q) != null ? 1 : 0;
    }

    // ---- witnesses ----

    private record Light(int weight, String word, int state) {
    }

    private String lightWord() {
        PriorityQueue<Light> queue = new PriorityQueue<>(
            Comparator.comparingInt(Light::weight)
                .thenComparingInt(light -> light.word().length())
                .thenComparing(Light::word));
        for (int i : m.initial) {
            queue.add(new Light(0, "", i));
        }
        Set<Integer> settled = new HashSet<>();
        while (!queue.isEmpty()) {
            Light light = queue.remove();
            if (m.fin.contains(light.state())) {
                return light.word();
            }
            if (settled.add(light.state())) {
                for (int a = 0; a < 3; a++) {
                    for (int t : m.targets(light.state(), a)) {
                        queue.add(new Light(light.weight() + weights[a], light.word() + (char) ('a' + a), t));
                    }
                }
            }
        }
        return null;
    }

    private String witness(int witness) {
        switch (witness) {
            case 0:
                return ambiguousWord();
            case 1:
                return lowestLoopState() < 0 ? null : loopWord(lowestLoopState());
            case 2:
                int pair = firstSplitPair();
                return pair < 0 ? null : splitWord(pair / 8, pair % 8);
            default:
                return lightWord();
        }
    }

    int witnessState(int witness) {
        return witness == 1 ? lowestLoopState() : witness == 2 ? firstSplitPair() : -1;
    }

    int witnessLength(int witness) {
        if (witness < 0 || witness > 3) {
            return -1;
        }
        String w = witness(witness);
        return w == null ? -4 : w.length();
    }

    int witnessLetter(int witness, int i) {
        if (witness < 0 || witness > 3) {
            return -1;
        }
        String w = witness(witness);
        return w == null || i < 0 || i >= w.length() ? -4 : w.charAt(i) - 'a';
    }

    int takeWitness(int witness) {
        if (witness < 0 || witness > 3) {
            return -1;
        }
        String w = witness(witness);
        if (w == null) {
            return -4;
        }
        if (w.length() > 20) {
            return -3;
        }
        word = w;
        return w.length();
    }

    int setWeight(int letter, int weight) {
        if (!letter(letter)) {
            return -1;
        }
        if (weight < 0 || weight > 100) {
            return -2;
        }
        int previous = weights[letter];
        weights[letter] = weight;
        return previous;
    }

    int lightestWeight() {
        String w = lightWord();
        if (w == null) {
            return -4;
        }
        int sum = 0;
        for (char c : w.toCharArray()) {
            sum += weights[c - 'a'];
        }
        return sum;
    }

    // ---- constructions ----

    /** A state of a construction: q, or -1 for subsets, and a set. */
    private record Place(int q, Set<Integer> set) {
    }

    private List<Place> placesAfter(Place place, int a) {
        List<Place> list = new ArrayList<>();
        Set<Integer> image = new TreeSet<>();
        for (int s : place.set()) {
            image.addAll(m.targets(s, a));
        }
        if (place.q() < 0) {
            if (!image.isEmpty()) {
                list.add(new Place(-1, image));
            }
            return list;
        }
        for (int r : m.targets(place.q(), a)) {
            Set<Integer> lower = new TreeSet<>(image);
            for (int t : m.targets(place.q(), a)) {
                if (t < r) {
                    lower.add(t);
                }
            }
            list.add(new Place(r, lower));
        }
        return list;
    }

    private boolean accepting(Place place) {
        boolean hit = false;
        for (int f : m.fin) {
            hit |= place.set().contains(f);
        }
        return place.q() < 0 ? hit : m.fin.contains(place.q()) && !hit;
    }

    int build(int construction) {
        if (construction < 0 || construction > 1) {
            return -1;
        }
        Map<Place, Integer> numbers = new LinkedHashMap<>();
        List<Place> places = new ArrayList<>();
        Built made = new Built();
        if (construction == 0 && !m.initial.isEmpty()) {
            places.add(new Place(-1, new TreeSet<>(m.initial)));
        }
        if (construction == 1) {
            for (int q : m.initial) {
                Set<Integer> lower = new TreeSet<>(m.initial);
                lower.removeIf(s -> s >= q);
                places.add(new Place(q, lower));
            }
        }
        for (Place place : places) {
            made.initials.add(numbers.size());
            numbers.put(place, numbers.size());
        }
        for (int i = 0; i < places.size(); i++) {
            List<List<Integer>> next = new ArrayList<>();
            for (int a = 0; a < 3; a++) {
                List<Integer> targets = new ArrayList<>();
                for (Place target : placesAfter(places.get(i), a)) {
                    if (!numbers.containsKey(target)) {
                        numbers.put(target, numbers.size());
                        places.add(target);
                    }
                    targets.add(numbers.get(target));
                }
                next.add(targets);
            }
            made.next.add(next);
            if (accepting(places.get(i))) {
                made.finals.add(i);
            }
        }
        if (places.size() > 64) {
            return -5;
        }
        built = made;
        return places.size();
    }

    private static long bits(List<Integer> numbers) {
        long bits = 0;
        for (int number : numbers) {
            bits |= 1L << number;
        }
        return bits;
    }

    int resultStateCount() {
        return built == null ? -4 : built.size();
    }

    long resultInitials() {
        return built == null ? 0 : bits(built.initials);
    }

    long resultFinals() {
        return built == null ? 0 : bits(built.finals);
    }

    long resultSuccessors(int s, int letter) {
        if (built == null || s < 0 || s >= built.size() || !letter(letter)) {
            return 0;
        }
        return bits(built.next.get(s).get(letter));
    }

    long resultAmbiguity() {
        if (built == null) {
            return -4;
        }
        BigInteger[] paths = new BigInteger[built.size()];
        Arrays.fill(paths, BigInteger.ZERO);
        for (int i : built.initials) {
            paths[i] = BigInteger.ONE;
        }
        for (char c : word.toCharArray()) {
            BigInteger[] more = new BigInteger[built.size()];
            Arrays.fill(more, BigInteger.ZERO);
            for (int s = 0; s < built.size(); s++) {
                for (int t : built.next.get(s).get(c - 'a')) {
                    more[t] = more[t].add(paths[s]);
                }
            }
            paths = more;
        }
        BigInteger sum = BigInteger.ZERO;
        for (int f : built.finals) {
            sum = sum.add(paths[f]);
        }
        return sum.longValueExact();
    }

    // ---- shelves ----

    private static boolean shelf(int shelf) {
        return shelf >= 0 && shelf < 4;
    }

    int keepWord(int shelf) {
        if (!shelf(shelf)) {
            return -1;
        }
        shelves[shelf] = word;
        return word.length();
    }

    int keepCounts(int shelf, int maxLength) {
        if (!shelf(shelf)) {
            return -1;
        }
        if (maxLength < 0 || maxLength > 30) {
            return -2;
        }
        long[] row = new long[maxLength + 1];
        for (int i = 0; i <= maxLength; i++) {
            row[i] = asLong(paths(i));
            if (row[i] < 0) {
                return -6;
            }
        }
        shelves[shelf] = row;
        return maxLength + 1;
    }

    int useWord(int shelf) {
        if (!shelf(shelf)) {
            return -1;
        }
        if (shelves[shelf] == null) {
            return -7;
        }
        if (!(shelves[shelf] instanceof String kept)) {
            return -8;
        }
        word = kept;
        return word.length();
    }

    long shelfElement(int shelf, int i) {
        if (!shelf(shelf)) {
            return -1;
        }
        if (shelves[shelf] == null) {
            return -7;
        }
        if (shelves[shelf] instanceof String kept) {
            return i < 0 || i >= kept.length() ? -1 : kept.charAt(i) - 'a';
        }
        long[] row = (long[]) shelves[shelf];
        return i < 0 || i >= row.length ? -1 : row[i];
    }

    int save() {
        savedMachine = m.copy();
        savedWeights = weights.clone();
        return m.n;
    }

    int restore() {
        if (savedMachine == null) {
            return -4;
        }
        m = savedMachine.copy();
        weights = savedWeights.clone();
        return m.n;
    }
}
