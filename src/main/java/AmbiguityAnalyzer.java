/**
 * An analyzer for the ambiguity of nondeterministic finite automata with at most six states and the
 * letters a, b and c. A set of states is an int in which bit s stands for state s.
 *
 * <p>The arrays are made once and used again, because all calls of a run share one small room.
 */
public final class AmbiguityAnalyzer {
    public static final int NO_SUCH_ELEMENT = -1;
    public static final int OUT_OF_RANGE = -2;
    public static final int FULL = -3;
    public static final int NONE = -4;
    public static final int TOO_LARGE = -5;
    public static final int OVERFLOW = -6;
    public static final int EMPTY_SHELF = -7;
    public static final int WRONG_TYPE = -8;

    private static final int MAX_STATES = 6;
    private static final int LETTERS = 3;
    private static final int SETS = 1 << MAX_STATES;

    private static final int TEXT_ROOM = 60;
    private static final int WORD_ROOM = 20;
    private static final int SHELVES = 4;
    private static final int MAX_DRAWS = 20;
    private static final int MAX_WEIGHT = 100;
    private static final int LONGEST_COUNTED = 60;
    private static final int LONGEST_KEPT = 30;
    private static final int MAX_ROWS = 1000;
    private static final int RESULT_ROOM = 64;

    private static final int PARSE_ERROR = -100;
    private static final int NOT_FOUND = -1;

    private static final int WITNESS_AMBIGUOUS = 0;
    private static final int WITNESS_LOOP = 1;
    private static final int WITNESS_SPLIT = 2;
    private static final int WITNESS_LIGHT = 3;

    // A shortest split word is a shortest path among the 6 * 6 * 6 triples of states; the other
    // witnesses are shorter still.
    private static final int LONGEST_WITNESS = MAX_STATES * MAX_STATES * MAX_STATES;

    private static final int SUBSETS = 0;
    private static final int LEAST_PATHS = 1;

    private final Automaton automaton = new Automaton();
    private final Automaton savedAutomaton = new Automaton();
    private final int[] weights = new int[LETTERS];
    private final int[] savedWeights = new int[LETTERS];
    private boolean somethingSaved;
    private final Text text = new Text();
    private final Word word = new Word();
    private final Word witnessWord = new Word();
    private final Shelf[] shelves = new Shelf[SHELVES];
    private final long[] freshCounts = new long[LONGEST_KEPT + 1];
    private final Steps steps = new Steps();
    private final Counter counter = new Counter();
    private final WordSearch search = new WordSearch();
    private final LightSearch lightSearch = new LightSearch();
    // Half of all the room that an object takes, and needed by one method: made when it is.
    private RowStore rows;
    private Result result = new Result();
    private Result spareResult = new Result();
    private boolean resultBuilt;

    public AmbiguityAnalyzer() {
        for (int letter = 0; letter < LETTERS; letter++) {
            weights[letter] = 1;
        }
        for (int i = 0; i < SHELVES; i++) {
            shelves[i] = new Shelf();
        }
    }

    // ---- the automaton ----

    public int reset(int states) {
        if (states < 1 || states > MAX_STATES) {
            return OUT_OF_RANGE;
        }
        int previous = automaton.states;
        automaton.clear(states);
        return previous;
    }

    public int stateCount() {
        return automaton.states;
    }

    public int addTransition(int from, int letter, int to) {
        if (!automaton.couldHave(from, letter, to)) {
            return NO_SUCH_ELEMENT;
        }
        return automaton.add(from, letter, to) ? 1 : 0;
    }

    public int removeTransition(int from, int letter, int to) {
        if (!automaton.couldHave(from, letter, to)) {
            return NO_SUCH_ELEMENT;
        }
        return automaton.remove(from, letter, to) ? 1 : 0;
    }

    public int transitionCount() {
        return automaton.countTransitions();
    }

    public int setInitial(int state, boolean initial) {
        if (!automaton.hasState(state)) {
            return NO_SUCH_ELEMENT;
        }
        int before = automaton.initials >> state & 1;
        automaton.initials = withBit(automaton.initials, state, initial);
        return before;
    }

    public int setFinal(int state, boolean accepts) {
        if (!automaton.hasState(state)) {
            return NO_SUCH_ELEMENT;
        }
        int before = automaton.finals >> state & 1;
        automaton.finals = withBit(automaton.finals, state, accepts);
        return before;
    }

    public int initialStates() {
        return automaton.initials;
    }

    public int finalStates() {
        return automaton.finals;
    }

    public int successors(int state, int letter) {
        if (!automaton.hasState(state) || !isLetter(letter)) {
            return NO_SUCH_ELEMENT;
        }
        return automaton.targetsOf(state, letter);
    }

    public int usefulStates() {
        return automaton.usefulSet();
    }

    public int trim() {
        int useful = automaton.usefulSet();
        if (useful == 0) {
            automaton.clear(1);
        } else {
            automaton.keepOnly(useful);
        }
        return automaton.states;
    }

    public int randomize(int seed, int count) {
        if (count < 0 || count > MAX_DRAWS) {
            return OUT_OF_RANGE;
        }
        automaton.addRandom(seed, count);
        return automaton.countTransitions();
    }

    // ---- the text ----

    public int append(int character) {
        if (character < 32 || character > 126) {
            return OUT_OF_RANGE;
        }
        return text.add(character) ? text.length : FULL;
    }

    public int parse() {
        int error = text.errorPosition(automaton.states);
        int answer = error == NOT_FOUND ? text.addItemsTo(automaton) : PARSE_ERROR - error;
        text.length = 0;
        return answer;
    }

    // ---- the current word ----

    public int appendLetter(int letter) {
        if (!isLetter(letter)) {
            return NO_SUCH_ELEMENT;
        }
        if (word.length >= WORD_ROOM) {
            return FULL;
        }
        word.add(letter);
        return word.length;
    }

    public int clearWord() {
        int previous = word.length;
        word.length = 0;
        return previous;
    }

    public int wordLength() {
        return word.length;
    }

    public int wordLetter(int i) {
        return word.hasPosition(i) ? word.letterAt(i) : NO_SUCH_ELEMENT;
    }

    public long wordAmbiguity() {
        return counter.pathsOf(automaton, word);
    }

    // ---- counts ----

    public long pathsOfLength(int length) {
        if (!isCountedLength(length)) {
            return OUT_OF_RANGE;
        }
        return counter.countPaths(automaton, length);
    }

    public long wordsOfLength(int length) {
        if (!isCountedLength(length)) {
            return OUT_OF_RANGE;
        }
        steps.load(automaton);
        return counter.countWords(automaton, steps, length);
    }

    public long averageBits(int length) {
        if (!isCountedLength(length)) {
            return OUT_OF_RANGE;
        }
        steps.load(automaton);
        long paths = counter.countPaths(automaton, length);
        long words = counter.countWords(automaton, steps, length);
        if (paths < 0 || words < 0) {
            return OVERFLOW;
        }
        return Counter.bitsOfQuotient(paths, words);
    }

    // ---- the kind ----

    public int kind() {
        return freshSearch().growthKind();
    }

    public int degree() {
        WordSearch fresh = freshSearch();
        int found = fresh.growthKind();
        if (found == WordSearch.EXPONENTIAL) {
            return NONE;
        }
        return found == WordSearch.POLYNOMIAL ? fresh.longestChain(automaton) : 0;
    }

    public long maximumAmbiguity() {
        if (freshSearch().growthKind() >= WordSearch.POLYNOMIAL) {
            return NONE;
        }
        if (rows == null) {
            rows = new RowStore();
        }
        return rows.highestAmbiguity(automaton);
    }

    public int isLoopState(int state) {
        if (!automaton.hasState(state)) {
            return NO_SUCH_ELEMENT;
        }
        return freshSearch().findLoopWord(state) ? 1 : 0;
    }

    public int isSplitPair(int p, int q) {
        if (!automaton.hasState(p) || !automaton.hasState(q)) {
            return NO_SUCH_ELEMENT;
        }
        return freshSearch().findSplitWord(p, q) ? 1 : 0;
    }

    // ---- witnesses ----

    public int witnessState(int witness) {
        if (witness != WITNESS_LOOP && witness != WITNESS_SPLIT) {
            return NO_SUCH_ELEMENT;
        }
        WordSearch fresh = freshSearch();
        int owner = witness == WITNESS_LOOP ? fresh.lowestLoopState() : fresh.firstSplitPair();
        return owner == NOT_FOUND ? NONE : owner;
    }

    public int witnessLength(int witness) {
        if (!isWitness(witness)) {
            return NO_SUCH_ELEMENT;
        }
        return findWitness(witness) ? witnessWord.length : NONE;
    }

    public int witnessLetter(int witness, int i) {
        if (!isWitness(witness)) {
            return NO_SUCH_ELEMENT;
        }
        if (!findWitness(witness) || !witnessWord.hasPosition(i)) {
            return NONE;
        }
        return witnessWord.letterAt(i);
    }

    public int takeWitness(int witness) {
        if (!isWitness(witness)) {
            return NO_SUCH_ELEMENT;
        }
        if (!findWitness(witness)) {
            return NONE;
        }
        if (witnessWord.length > WORD_ROOM) {
            return FULL;
        }
        word.copyFrom(witnessWord);
        return word.length;
    }

    public int setWeight(int letter, int weight) {
        if (!isLetter(letter)) {
            return NO_SUCH_ELEMENT;
        }
        if (weight < 0 || weight > MAX_WEIGHT) {
            return OUT_OF_RANGE;
        }
        int previous = weights[letter];
        weights[letter] = weight;
        return previous;
    }

    public int lightestWeight() {
        if (!findWitness(WITNESS_LIGHT)) {
            return NONE;
        }
        int sum = 0;
        for (int i = 0; i < witnessWord.length; i++) {
            int letter = witnessWord.letterAt(i);
            sum += isLetter(letter) ? weights[letter] : 0;
        }
        return sum;
    }

    // ---- constructions ----

    public int build(int construction) {
        if (construction != SUBSETS && construction != LEAST_PATHS) {
            return NO_SUCH_ELEMENT;
        }
        steps.load(automaton);
        boolean fits = construction == SUBSETS
            ? spareResult.makeSubsets(automaton, steps)
            : spareResult.makeLeastPaths(automaton, steps);
        if (!fits) {
            return TOO_LARGE;
        }
        Result previous = result;
        result = spareResult;
        spareResult = previous;
        resultBuilt = true;
        return result.count;
    }

    public int resultStateCount() {
        return resultBuilt ? result.count : NONE;
    }

    public long resultInitials() {
        return resultBuilt ? result.initials : 0;
    }

    public long resultFinals() {
        return resultBuilt ? result.finals : 0;
    }

    public long resultSuccessors(int state, int letter) {
        return resultBuilt ? result.targetsOf(state, letter) : 0;
    }

    public long resultAmbiguity() {
        if (!resultBuilt) {
            return NONE;
        }
        return result.accepts(word) ? 1 : 0;
    }

    // ---- shelves ----

    public int keepWord(int shelf) {
        Shelf place = shelfAt(shelf);
        if (place == null) {
            return NO_SUCH_ELEMENT;
        }
        place.putWord(word);
        return word.length;
    }

    public int keepCounts(int shelf, int maxLength) {
        Shelf place = shelfAt(shelf);
        if (place == null) {
            return NO_SUCH_ELEMENT;
        }
        if (maxLength < 0 || maxLength > LONGEST_KEPT) {
            return OUT_OF_RANGE;
        }
        if (!counter.fillCounts(automaton, freshCounts, maxLength + 1)) {
            return OVERFLOW;
        }
        place.putCounts(freshCounts, maxLength + 1);
        return maxLength + 1;
    }

    public int useWord(int shelf) {
        Shelf place = shelfAt(shelf);
        if (place == null) {
            return NO_SUCH_ELEMENT;
        }
        if (place.content == Shelf.NOTHING) {
            return EMPTY_SHELF;
        }
        if (place.content != Shelf.A_WORD) {
            return WRONG_TYPE;
        }
        place.copyWordTo(word);
        return word.length;
    }

    public long shelfElement(int shelf, int i) {
        Shelf place = shelfAt(shelf);
        if (place == null) {
            return NO_SUCH_ELEMENT;
        }
        if (place.content == Shelf.NOTHING) {
            return EMPTY_SHELF;
        }
        return place.hasPosition(i) ? place.elementAt(i) : NO_SUCH_ELEMENT;
    }

    // ---- saving ----

    public int save() {
        savedAutomaton.copyFrom(automaton);
        copyWeights(weights, savedWeights);
        somethingSaved = true;
        return automaton.states;
    }

    public int restore() {
        if (!somethingSaved) {
            return NONE;
        }
        automaton.copyFrom(savedAutomaton);
        copyWeights(savedWeights, weights);
        return automaton.states;
    }

    // ---- helpers of the face ----

    private WordSearch freshSearch() {
        search.look(automaton);
        return search;
    }

    private boolean findWitness(int witness) {
        if (witness == WITNESS_LIGHT) {
            return lightSearch.find(automaton, weights, witnessWord);
        }
        WordSearch fresh = freshSearch();
        boolean there = false;
        if (witness == WITNESS_AMBIGUOUS) {
            there = fresh.findAmbiguousWord();
        } else if (witness == WITNESS_LOOP) {
            there = fresh.lowestLoopState() != NOT_FOUND;
        } else if (witness == WITNESS_SPLIT) {
            there = fresh.firstSplitPair() != NOT_FOUND;
        }
        if (there) {
            fresh.copyFoundWordTo(witnessWord);
        }
        return there;
    }

    private Shelf shelfAt(int shelf) {
        return shelf >= 0 && shelf < SHELVES ? shelves[shelf] : null;
    }

    private static boolean isLetter(int letter) {
        return letter >= 0 && letter < LETTERS;
    }

    private static boolean isWitness(int witness) {
        return witness >= WITNESS_AMBIGUOUS && witness <= WITNESS_LIGHT;
    }

    private static boolean isCountedLength(int length) {
        return length >= 0 && length <= LONGEST_COUNTED;
    }

    private static boolean contains(int set, int state) {
        return (set >> state & 1) != 0;
    }

    private static int withBit(int set, int state, boolean in) {
        return in ? set | 1 << state : set & ~(1 << state);
    }

    private static void copyWeights(int[] from, int[] to) {
        for (int letter = 0; letter < LETTERS; letter++) {
            to[letter] = from[letter];
        }
    }

    /** The states with their marks, and for each state and letter the set of targets. */
    private static final class Automaton {
        int states = 1;
        int initials;
        int finals;
        private final int[] targets = new int[MAX_STATES * LETTERS];

        void clear(int newStates) {
            states = newStates;
            initials = 0;
            finals = 0;
            for (int i = 0; i < targets.length; i++) {
                targets[i] = 0;
            }
        }

        void copyFrom(Automaton other) {
            states = other.states;
            initials = other.initials;
            finals = other.finals;
            for (int i = 0; i < targets.length; i++) {
                targets[i] = other.targets[i];
            }
        }

        boolean hasState(int state) {
            return state >= 0 && state < states;
        }

        boolean couldHave(int from, int letter, int to) {
            return hasState(from) && isLetter(letter) && hasState(to);
        }

        int targetsOf(int state, int letter) {
            boolean there = state >= 0 && state < states && letter >= 0 && letter < LETTERS;
            return there ? targets[state * LETTERS + letter] : 0;
        }

        boolean add(int from, int letter, int to) {
            if (!couldHave(from, letter, to) || contains(targetsOf(from, letter), to)) {
                return false;
            }
            targets[from * LETTERS + letter] |= 1 << to;
            return true;
        }

        boolean remove(int from, int letter, int to) {
            if (!couldHave(from, letter, to) || !contains(targetsOf(from, letter), to)) {
                return false;
            }
            targets[from * LETTERS + letter] &= ~(1 << to);
            return true;
        }

        int countTransitions() {
            int sum = 0;
            for (int i = 0; i < targets.length; i++) {
                sum += Integer.bitCount(targets[i]);
            }
            return sum;
        }

        void addRandom(int seed, int count) {
            int x = seed;
            for (int i = 0; i < count; i++) {
                x = nextRandom(x);
                int from = draw(x, states);
                x = nextRandom(x);
                int letter = draw(x, LETTERS);
                x = nextRandom(x);
                int to = draw(x, states);
                add(from, letter, to);
            }
        }

        private static int nextRandom(int x) {
            return x * 1103515245 + 12345;
        }

        private static int draw(int x, int n) {
            return n < 1 ? 0 : (x >>> 16) % n;
        }

        int usefulSet() {
            return reachedFrom(initials) & reaching(finals);
        }

        private int neighbours(int state) {
            int set = 0;
            for (int letter = 0; letter < LETTERS; letter++) {
                set |= targetsOf(state, letter);
            }
            return set;
        }

        /** The states to which paths, also empty ones, lead from the set. */
        int reachedFrom(int set) {
            int reached = set;
            // Each round but the last adds a state, so that many rounds are enough.
            for (int round = 0; round < states; round++) {
                for (int s = 0; s < states; s++) {
                    reached |= contains(reached, s) ? neighbours(s) : 0;
                }
            }
            return reached;
        }

        /** The states from which paths, also empty ones, lead into the set. */
        private int reaching(int set) {
            int reaching = set;
            for (int round = 0; round < states; round++) {
                for (int s = 0; s < states; s++) {
                    reaching |= (neighbours(s) & reaching) != 0 ? 1 << s : 0;
                }
            }
            return reaching;
        }

        /** Keeps the states of the set, which is not empty, and numbers them anew. */
        void keepOnly(int set) {
            int kept = 0;
            // A state never moves up, so no targets are overwritten before they are read.
            for (int s = 0; s < states; s++) {
                if (contains(set, s)) {
                    moveTargets(s, kept, set);
                    kept++;
                }
            }
            for (int i = kept * LETTERS; i < targets.length; i++) {
                targets[i] = 0;
            }
            initials = squeeze(initials, set);
            finals = squeeze(finals, set);
            states = kept;
        }

        private void moveTargets(int from, int to, int set) {
            if (to < 0 || to >= MAX_STATES) {
                return;
            }
            for (int letter = 0; letter < LETTERS; letter++) {
                targets[to * LETTERS + letter] = squeeze(targetsOf(from, letter), set);
            }
        }

        /** The members of the set as they are called when only the states of kept are left. */
        private static int squeeze(int set, int kept) {
            int squeezed = 0;
            int number = 0;
            for (int s = 0; s < MAX_STATES; s++) {
                if (contains(kept, s)) {
                    squeezed |= contains(set, s) ? 1 << number : 0;
                    number++;
                }
            }
            return squeezed;
        }
    }

    /** A row of letters: the current word or a witness. */
    private static final class Word {
        int length;
        private final int[] letters = new int[LONGEST_WITNESS];

        boolean hasPosition(int i) {
            return i >= 0 && i < length && i < letters.length;
        }

        int letterAt(int i) {
            return hasPosition(i) ? letters[i] : 0;
        }

        void setLetter(int i, int letter) {
            if (hasPosition(i)) {
                letters[i] = letter;
            }
        }

        void add(int letter) {
            if (length < letters.length) {
                length++;
                setLetter(length - 1, letter);
            }
        }

        void copyFrom(Word other) {
            length = other.length;
            for (int i = 0; i < length; i++) {
                setLetter(i, other.letterAt(i));
            }
        }
    }

    /** What has been put on one shelf; letters are held as numbers, like counts. */
    private static final class Shelf {
        static final int NOTHING = 0;
        static final int A_WORD = 1;
        static final int A_ROW = 2;

        int content = NOTHING;
        private int length;
        private final long[] elements = new long[LONGEST_KEPT + 1];

        boolean hasPosition(int i) {
            return i >= 0 && i < length && i < elements.length;
        }

        long elementAt(int i) {
            return hasPosition(i) ? elements[i] : 0;
        }

        void putWord(Word word) {
            content = A_WORD;
            length = word.length;
            for (int i = 0; i < length && i < elements.length; i++) {
                elements[i] = word.letterAt(i);
            }
        }

        void putCounts(long[] counts, int newLength) {
            content = A_ROW;
            length = newLength;
            for (int i = 0; i < length && i < elements.length && i < counts.length; i++) {
                elements[i] = counts[i];
            }
        }

        void copyWordTo(Word word) {
            word.length = 0;
            for (int i = 0; i < length; i++) {
                word.add((int) elementAt(i));
            }
        }
    }

    /** The text buffer and the grammar of its items. */
    private static final class Text {
        private static final int WRONG = -1;
        private static final int ITEM_BEGINS = 0;
        private static final int AFTER_ARROW = 1;
        private static final int AFTER_STATE = 2;
        private static final int AFTER_LETTER = 3;
        private static final int ITEM_COMPLETE = 4;

        int length;
        private final int[] characters = new int[TEXT_ROOM];

        boolean add(int character) {
            if (length < 0 || length >= characters.length) {
                return false;
            }
            characters[length] = character;
            length++;
            return true;
        }

        private int characterAt(int i) {
            return i >= 0 && i < length && i < characters.length ? characters[i] : 0;
        }

        /** The position of the first error, NOT_FOUND if the text follows the grammar. */
        int errorPosition(int states) {
            int mode = ITEM_BEGINS;
            for (int i = 0; i < length; i++) {
                mode = nextMode(mode, characterAt(i), states);
                if (mode == WRONG) {
                    return i;
                }
            }
            return mode == ITEM_COMPLETE ? NOT_FOUND : length;
        }

        private static int nextMode(int mode, int c, int states) {
            boolean isState = c >= '0' && c < '0' + states;
            switch (mode) {
                case ITEM_BEGINS:
                    return c == '>' ? AFTER_ARROW : isState ? AFTER_STATE : WRONG;
                case AFTER_ARROW:
                    return isState ? ITEM_COMPLETE : WRONG;
                case AFTER_STATE:
                    return c == '!' ? ITEM_COMPLETE : isLetter(c - 'a') ? AFTER_LETTER : WRONG;
                case AFTER_LETTER:
                    return isState ? ITEM_COMPLETE : WRONG;
                default:
                    return c == ';' ? ITEM_BEGINS : WRONG;
            }
        }

        /** Adds the items of a text that follows the grammar, and counts them. */
        int addItemsTo(Automaton automaton) {
            int items = 0;
            for (int at = 0; at < length && items < TEXT_ROOM; items++) {
                int itemLength = addItemTo(automaton, at);
                at += itemLength + 1;
            }
            return items;
        }

        private int addItemTo(Automaton automaton, int at) {
            int first = characterAt(at);
            int second = characterAt(at + 1);
            if (first == '>') {
                automaton.initials |= 1 << second - '0';
                return 2;
            }
            if (second == '!') {
                automaton.finals |= 1 << first - '0';
                return 2;
            }
            automaton.add(first - '0', second - 'a', characterAt(at + 2) - '0');
            return 3;
        }
    }

    /** For each letter and each set of states, where one step leads. */
    private static final class Steps {
        private final int[] once = new int[LETTERS * SETS];
        private final int[] twice = new int[LETTERS * SETS];

        void load(Automaton automaton) {
            for (int letter = 0; letter < LETTERS; letter++) {
                for (int s = 0; s < MAX_STATES; s++) {
                    loadSetsUpTo(s, letter, automaton.targetsOf(s, letter));
                }
            }
        }

        /** Loads the sets whose highest state is s; those without s are loaded already. */
        private void loadSetsUpTo(int s, int letter, int targets) {
            if (s < 0 || s >= MAX_STATES || !isLetter(letter)) {
                return;
            }
            int highest = 1 << s;
            for (int lower = 0; lower < highest; lower++) {
                int rest = letter * SETS + lower;
                int at = rest + highest;
                once[at] = once[rest] | targets;
                twice[at] = twice[rest] | once[rest] & targets;
            }
        }

        /** The states to which transitions with the letter lead from states of the set. */
        int reachedOnce(int set, int letter) {
            boolean there = set >= 0 && set < SETS && letter >= 0 && letter < LETTERS;
            return there ? once[letter * SETS + set] : 0;
        }

        /** The states to which such transitions lead from at least two states of the set. */
        int reachedTwice(int set, int letter) {
            boolean there = set >= 0 && set < SETS && letter >= 0 && letter < LETTERS;
            return there ? twice[letter * SETS + set] : 0;
        }
    }

    /** Counts paths and words. OVERFLOW stands for every number greater than the greatest long. */
    private static final class Counter {
        private static final long NAN_BITS = 0x7ff8000000000000L;
        private static final int FRACTION_BITS = 52;
        private static final int EXPONENT_OF_ONE = 1023;

        private final long[] paths = new long[MAX_STATES];
        private final long[] nextPaths = new long[MAX_STATES];
        private final long[] words = new long[SETS];
        private final long[] nextWords = new long[SETS];

        private static long sum(long a, long b) {
            if (a < 0 || b < 0 || a + b < 0) {
                return OVERFLOW;
            }
            return a + b;
        }

        long pathsOf(Automaton automaton, Word word) {
            startPaths(automaton);
            for (int i = 0; i < word.length; i++) {
                extendPathsBy(automaton, word.letterAt(i));
                takeNextPaths();
            }
            return acceptedPaths(automaton);
        }

        long countPaths(Automaton automaton, int length) {
            startPaths(automaton);
            for (int i = 0; i < length; i++) {
                extendPaths(automaton);
            }
            return acceptedPaths(automaton);
        }

        /** Fills in the counts of the lengths below end, and says whether all of them are longs. */
        boolean fillCounts(Automaton automaton, long[] counts, int end) {
            startPaths(automaton);
            for (int length = 0; length < end && length < counts.length; length++) {
                counts[length] = acceptedPaths(automaton);
                if (counts[length] < 0) {
                    return false;
                }
                extendPaths(automaton);
            }
            return true;
        }

        private void startPaths(Automaton automaton) {
            for (int s = 0; s < MAX_STATES; s++) {
                paths[s] = contains(automaton.initials, s) ? 1 : 0;
                nextPaths[s] = 0;
            }
        }

        private void extendPaths(Automaton automaton) {
            for (int letter = 0; letter < LETTERS; letter++) {
                extendPathsBy(automaton, letter);
            }
            takeNextPaths();
        }

        private void extendPathsBy(Automaton automaton, int letter) {
            for (int s = 0; s < MAX_STATES; s++) {
                int targets = automaton.targetsOf(s, letter);
                for (int t = 0; t < MAX_STATES; t++) {
                    if (contains(targets, t)) {
                        nextPaths[t] = sum(nextPaths[t], paths[s]);
                    }
                }
            }
        }

        private void takeNextPaths() {
            for (int s = 0; s < MAX_STATES; s++) {
                paths[s] = nextPaths[s];
                nextPaths[s] = 0;
            }
        }

        private long acceptedPaths(Automaton automaton) {
            long accepted = 0;
            for (int s = 0; s < MAX_STATES; s++) {
                if (contains(automaton.finals, s)) {
                    accepted = sum(accepted, paths[s]);
                }
            }
            return accepted;
        }

        /** Counts each word once, with the set of all states that its paths reach. */
        long countWords(Automaton automaton, Steps steps, int length) {
            for (int set = 0; set < SETS; set++) {
                words[set] = set == automaton.initials ? 1 : 0;
            }
            for (int i = 0; i < length; i++) {
                extendWords(steps);
            }
            long accepted = 0;
            for (int set = 0; set < SETS; set++) {
                if ((set & automaton.finals) != 0) {
                    accepted = sum(accepted, words[set]);
                }
            }
            return accepted;
        }

        private void extendWords(Steps steps) {
            for (int set = 0; set < SETS; set++) {
                nextWords[set] = 0;
            }
            for (int set = 1; set < SETS; set++) {
                for (int letter = 0; words[set] != 0 && letter < LETTERS; letter++) {
                    int target = steps.reachedOnce(set, letter);
                    if (target >= 0 && target < SETS) {
                        nextWords[target] = sum(nextWords[target], words[set]);
                    }
                }
            }
            for (int set = 0; set < SETS; set++) {
                words[set] = nextWords[set];
            }
        }

        /** The bits of the double paths / words; paths is never smaller than words. */
        static long bitsOfQuotient(long paths, long words) {
            if (words <= 0) {
                return NAN_BITS;
            }
            double fraction = (double) paths / (double) words;
            int exponent = 0;
            // Halving is exact, so the fraction keeps the very digits of the quotient.
            while (fraction >= 2.0 && exponent < 64) {
                fraction = fraction / 2.0;
                exponent++;
            }
            long digits = (long) ((fraction - 1.0) * (double) (1L << FRACTION_BITS));
            return ((long) (EXPONENT_OF_ONE + exponent) << FRACTION_BITS) + digits;
        }
    }

    /**
     * Finds the first word after which two sets of states have a property, by going through the
     * words in their order. Words after which the sets are the same go on alike, so only the first
     * of them is followed; a node stands for it.
     */
    private static final class WordSearch {
        static final int UNAMBIGUOUS = 0;
        static final int FINITE = 1;
        static final int POLYNOMIAL = 2;
        static final int EXPONENTIAL = 3;

        private static final int SET_MASK = SETS - 1;
        private static final int LETTER_SHIFT = 2 * MAX_STATES;
        private static final int PARENT_SHIFT = LETTER_SHIFT + 2;

        private final Steps steps = new Steps();
        private int states;
        private int initials;
        private int finals;
        private int useful;

        private int goal;
        private int goalP;
        private int goalQ;

        // A node packs its parent, its last letter and its two sets into one int.
        private final int[] nodes = new int[SETS * SETS];
        private int nodeCount;
        private int foundNode = NOT_FOUND;
        // Bit b of element a: there is a node with the sets a and b.
        private final long[] met = new long[SETS];
        private final int[] chainsTo = new int[MAX_STATES];

        void look(Automaton automaton) {
            steps.load(automaton);
            states = automaton.states;
            initials = automaton.initials;
            finals = automaton.finals;
            useful = automaton.usefulSet();
        }

        int growthKind() {
            if (!findAmbiguousWord()) {
                return UNAMBIGUOUS;
            }
            if (lowestLoopState() != NOT_FOUND) {
                return EXPONENTIAL;
            }
            return firstSplitPair() != NOT_FOUND ? POLYNOMIAL : FINITE;
        }

        boolean findAmbiguousWord() {
            goal = WITNESS_AMBIGUOUS;
            return run(initials, 0);
        }

        boolean findLoopWord(int state) {
            goal = WITNESS_LOOP;
            goalP = 1 << state;
            return contains(useful, state) && run(goalP, 0);
        }

        boolean findSplitWord(int p, int q) {
            goal = WITNESS_SPLIT;
            goalP = 1 << p;
            goalQ = 1 << q;
            return p != q && contains(useful, p) && contains(useful, q) && run(goalP, goalQ);
        }

        /** The lowest loop state, whose first loop word is found then, or NOT_FOUND. */
        int lowestLoopState() {
            for (int s = 0; s < states; s++) {
                if (findLoopWord(s)) {
                    return s;
                }
            }
            return NOT_FOUND;
        }

        /** 8 * p + q for the first split pair, whose first word is found then, or NOT_FOUND. */
        int firstSplitPair() {
            for (int p = 0; p < states; p++) {
                for (int q = 0; q < states; q++) {
                    if (findSplitWord(p, q)) {
                        return 8 * p + q;
                    }
                }
            }
            return NOT_FOUND;
        }

        /** The largest number of split pairs in a chain, if there is no loop state. */
        int longestChain(Automaton automaton) {
            long pairs = splitPairs();
            for (int s = 0; s < MAX_STATES; s++) {
                chainsTo[s] = 0;
            }
            // Without a loop state no chain comes back to a state, so each round makes all chains
            // right that have one pair more, and there are fewer pairs in a chain than states.
            for (int round = 1; round < states; round++) {
                for (int i = 0; i < MAX_STATES * MAX_STATES; i++) {
                    if ((pairs >> i & 1) != 0) {
                        prolongChains(automaton, i / MAX_STATES, i % MAX_STATES);
                    }
                }
            }
            int longest = 0;
            for (int s = 0; s < MAX_STATES; s++) {
                longest = Math.max(longest, chainsTo[s]);
            }
            return longest;
        }

        private long splitPairs() {
            long pairs = 0;
            for (int p = 0; p < states; p++) {
                for (int q = 0; q < states; q++) {
                    pairs |= findSplitWord(p, q) ? 1L << p * MAX_STATES + q : 0;
                }
            }
            return pairs;
        }

        private void prolongChains(Automaton automaton, int p, int q) {
            if (p < 0 || p >= MAX_STATES) {
                return;
            }
            int pairsNow = chainsTo[p] + 1;
            int reached = automaton.reachedFrom(1 << q);
            for (int s = 0; s < MAX_STATES; s++) {
                if (contains(reached, s)) {
                    chainsTo[s] = Math.max(chainsTo[s], pairsNow);
                }
            }
        }

        private boolean run(int first, int second) {
            for (int set = 0; set < SETS; set++) {
                met[set] = 0;
            }
            nodeCount = 0;
            foundNode = NOT_FOUND;
            meet(first, second, 0);
            for (int at = 0; at < nodeCount && at < nodes.length; at++) {
                if (isGoal(firstSet(at), secondSet(at))) {
                    foundNode = at;
                    return true;
                }
                for (int letter = 0; letter < LETTERS; letter++) {
                    goOn(at, letter);
                }
            }
            return false;
        }

        /**
         * The first set has the states that are reached. For split words the second one has those
         * that are reached from q, otherwise those that are reached on at least two paths.
         */
        private void goOn(int at, int letter) {
            int first = firstSet(at);
            int second = secondSet(at);
            int nextFirst = steps.reachedOnce(first, letter);
            int nextSecond = steps.reachedOnce(second, letter);
            if (goal != WITNESS_SPLIT) {
                nextSecond |= steps.reachedTwice(first & ~second, letter);
            }
            meet(nextFirst, nextSecond, at << PARENT_SHIFT | letter << LETTER_SHIFT);
        }

        private void meet(int first, int second, int origin) {
            if (first < 0 || first >= SETS || nodeCount >= nodes.length) {
                return;
            }
            if ((met[first] >> second & 1) != 0) {
                return;
            }
            met[first] |= 1L << second;
            nodes[nodeCount] = origin | first << MAX_STATES | second;
            nodeCount++;
        }

        private boolean isGoal(int first, int second) {
            if (goal == WITNESS_SPLIT) {
                int both = goalP | goalQ;
                return (first & both) == both && (second & goalQ) != 0;
            }
            if (goal == WITNESS_LOOP) {
                return (second & goalP) != 0;
            }
            return (second & finals) != 0 || Integer.bitCount(first & finals) > 1;
        }

        private int nodeAt(int at) {
            return at >= 0 && at < nodes.length ? nodes[at] : 0;
        }

        private int firstSet(int at) {
            return nodeAt(at) >> MAX_STATES & SET_MASK;
        }

        private int secondSet(int at) {
            return nodeAt(at) & SET_MASK;
        }

        void copyFoundWordTo(Word word) {
            int length = 0;
            for (int at = foundNode; at > 0 && length < LONGEST_WITNESS; length++) {
                at = nodeAt(at) >> PARENT_SHIFT;
            }
            word.length = length;
            int at = foundNode;
            for (int i = length - 1; i >= 0; i--) {
                word.setLetter(i, nodeAt(at) >> LETTER_SHIFT & 3);
                at = nodeAt(at) >> PARENT_SHIFT;
            }
        }
    }

    /**
     * Finds the lightest accepted word. The cost of a word is its weight times COST_OF_WEIGHT plus
     * its length, so that lighter words cost less, and among words of the same weight shorter ones.
     */
    private static final class LightSearch {
        // Greater than the length of any lightest word, which goes through no state twice.
        private static final int COST_OF_WEIGHT = 64;
        private static final int NO_WAY = 1000000;

        private final int[] costs = new int[MAX_STATES];

        boolean find(Automaton automaton, int[] weights, Word word) {
            computeCosts(automaton, weights);
            int cost = cheapest(automaton.initials);
            if (cost >= NO_WAY) {
                return false;
            }
            word.length = 0;
            int set = statesOfCost(automaton.initials, cost);
            for (int i = 0; i < MAX_STATES && cost > 0; i++) {
                int letter = firstLetter(automaton, weights, set, cost);
                cost -= price(weights, letter);
                set = statesOfCost(image(automaton, set, letter), cost);
                word.add(letter);
            }
            return true;
        }

        private static int price(int[] weights, int letter) {
            return letter >= 0 && letter < weights.length ? weights[letter] * COST_OF_WEIGHT + 1 : 1;
        }

        /** Computes for each state what the cheapest word from it to a final state costs. */
        private void computeCosts(Automaton automaton, int[] weights) {
            for (int s = 0; s < MAX_STATES; s++) {
                costs[s] = contains(automaton.finals, s) ? 0 : NO_WAY;
            }
            // A cheapest way goes through no state twice, so that many rounds are enough.
            for (int round = 1; round < automaton.states; round++) {
                for (int s = 0; s < MAX_STATES; s++) {
                    for (int letter = 0; letter < LETTERS; letter++) {
                        int rest = cheapest(automaton.targetsOf(s, letter));
                        costs[s] = Math.min(costs[s], rest + price(weights, letter));
                    }
                }
            }
        }

        private int cheapest(int set) {
            int cost = NO_WAY;
            for (int s = 0; s < MAX_STATES; s++) {
                cost = contains(set, s) ? Math.min(cost, costs[s]) : cost;
            }
            return cost;
        }

        private int statesOfCost(int set, int cost) {
            int chosen = 0;
            for (int s = 0; s < MAX_STATES; s++) {
                chosen |= contains(set, s) && costs[s] == cost ? 1 << s : 0;
            }
            return chosen;
        }

        /** The first letter with which a word of the cost goes on from the set. */
        private int firstLetter(Automaton automaton, int[] weights, int set, int cost) {
            for (int letter = 0; letter < LETTERS - 1; letter++) {
                int rest = cost - price(weights, letter);
                if (statesOfCost(image(automaton, set, letter), rest) != 0) {
                    return letter;
                }
            }
            return LETTERS - 1;
        }

        private static int image(Automaton automaton, int set, int letter) {
            int image = 0;
            for (int s = 0; s < MAX_STATES; s++) {
                image |= contains(set, s) ? automaton.targetsOf(s, letter) : 0;
            }
            return image;
        }
    }

    /** The different rows that belong to words: the numbers of paths to each useful state. */
    private static final class RowStore {
        private static final int BUCKETS = 256;

        private final long[] cells = new long[MAX_ROWS * MAX_STATES];
        private final long[] fresh = new long[MAX_STATES];
        // The rows of a bucket are chained; the newest row of each bucket stands first.
        private final int[] newest = new int[BUCKETS];
        private final int[] older = new int[MAX_ROWS];
        private int count;

        /** The highest ambiguity of all words, or TOO_LARGE; it ends for every automaton. */
        long highestAmbiguity(Automaton automaton) {
            int useful = automaton.usefulSet();
            makeEmpty();
            for (int s = 0; s < MAX_STATES; s++) {
                fresh[s] = contains(automaton.initials & useful, s) ? 1 : 0;
            }
            boolean fits = keepFresh();
            long highest = 0;
            for (int row = 0; fits && row < count && row < MAX_ROWS; row++) {
                highest = Math.max(highest, sumOver(row, automaton.finals));
                for (int letter = 0; fits && letter < LETTERS; letter++) {
                    makeFresh(row, automaton, letter, useful);
                    fits = keepFresh();
                }
            }
            return fits ? highest : TOO_LARGE;
        }

        private void makeEmpty() {
            count = 0;
            for (int i = 0; i < BUCKETS; i++) {
                newest[i] = NOT_FOUND;
            }
        }

        private long cell(int row, int state) {
            int at = row * MAX_STATES + state;
            return at >= 0 && at < cells.length ? cells[at] : 0;
        }

        private long sumOver(int row, int set) {
            long sum = 0;
            for (int s = 0; s < MAX_STATES; s++) {
                sum += contains(set, s) ? cell(row, s) : 0;
            }
            return sum;
        }

        /** Makes the row of a word from the row of the word without its last letter. */
        private void makeFresh(int row, Automaton automaton, int letter, int useful) {
            for (int t = 0; t < MAX_STATES; t++) {
                fresh[t] = 0;
            }
            for (int s = 0; s < MAX_STATES; s++) {
                int targets = automaton.targetsOf(s, letter) & useful;
                long paths = cell(row, s);
                for (int t = 0; paths != 0 && t < MAX_STATES; t++) {
                    fresh[t] += contains(targets, t) ? paths : 0;
                }
            }
        }

        /** Keeps the fresh row if it is new; false if there is no room for it. */
        private boolean keepFresh() {
            int bucket = bucketOfFresh();
            if (isKept(newest[bucket])) {
                return true;
            }
            if (count >= MAX_ROWS) {
                return false;
            }
            for (int s = 0; s < MAX_STATES; s++) {
                cells[count * MAX_STATES + s] = fresh[s];
            }
            older[count] = newest[bucket];
            newest[bucket] = count;
            count++;
            return true;
        }

        private int bucketOfFresh() {
            long mixed = 0;
            for (int s = 0; s < MAX_STATES; s++) {
                mixed = mixed * 31 + fresh[s];
            }
            return (int) (mixed ^ mixed >> 8) & BUCKETS - 1;
        }

        private boolean isKept(int newestRow) {
            int row = newestRow;
            for (int i = 0; i < MAX_ROWS && row >= 0 && row < MAX_ROWS; i++) {
                if (equalsFresh(row)) {
                    return true;
                }
                row = older[row];
            }
            return false;
        }

        private boolean equalsFresh(int row) {
            for (int s = 0; s < MAX_STATES; s++) {
                if (cell(row, s) != fresh[s]) {
                    return false;
                }
            }
            return true;
        }
    }

    /**
     * An automaton that accepts the same words. Each of its states has a code: a set of states, or
     * a state times SETS plus its lower set.
     */
    private static final class Result {
        int count;
        long initials;
        long finals;
        private final long[] targets = new long[RESULT_ROOM * LETTERS];
        private final int[] codes = new int[RESULT_ROOM];
        private final int[] numbers = new int[MAX_STATES * SETS];

        private void makeEmpty() {
            count = 0;
            initials = 0;
            finals = 0;
            for (int i = 0; i < targets.length; i++) {
                targets[i] = 0;
            }
            for (int i = 0; i < numbers.length; i++) {
                numbers[i] = NOT_FOUND;
            }
        }

        /** The bit of the state with the code, which is added if it is new; 0 if there is no room. */
        private long bitOf(int code, boolean isFinal) {
            if (code < 0 || code >= numbers.length) {
                return 0;
            }
            if (numbers[code] == NOT_FOUND) {
                if (count >= RESULT_ROOM) {
                    return 0;
                }
                numbers[code] = count;
                codes[count] = code;
                finals |= isFinal ? 1L << count : 0;
                count++;
            }
            return 1L << numbers[code];
        }

        /** Makes construction 0 and says whether it fits, which it always does. */
        boolean makeSubsets(Automaton automaton, Steps steps) {
            makeEmpty();
            if (automaton.initials != 0) {
                initials = bitOfSet(automaton, automaton.initials);
            }
            for (int at = 0; at < count && at < RESULT_ROOM; at++) {
                for (int letter = 0; letter < LETTERS; letter++) {
                    int set = steps.reachedOnce(codes[at], letter);
                    if (set != 0) {
                        targets[at * LETTERS + letter] = bitOfSet(automaton, set);
                    }
                }
            }
            return true;
        }

        private long bitOfSet(Automaton automaton, int set) {
            return bitOf(set, (set & automaton.finals) != 0);
        }

        /** Makes construction 1 and says whether it fits. */
        boolean makeLeastPaths(Automaton automaton, Steps steps) {
            makeEmpty();
            for (int q = 0; q < automaton.states; q++) {
                if (contains(automaton.initials, q)) {
                    initials |= bitOfPair(automaton, q, below(automaton.initials, q));
                }
            }
            for (int at = 0; at < count && at < RESULT_ROOM; at++) {
                for (int letter = 0; letter < LETTERS; letter++) {
                    if (!addPairsAfter(automaton, steps, at, letter)) {
                        return false;
                    }
                }
            }
            return true;
        }

        private boolean addPairsAfter(Automaton automaton, Steps steps, int at, int letter) {
            int code = at >= 0 && at < RESULT_ROOM ? codes[at] : 0;
            int reached = automaton.targetsOf(code / SETS, letter);
            int afterLower = steps.reachedOnce(code % SETS, letter);
            long bits = 0;
            for (int r = 0; r < MAX_STATES; r++) {
                if (contains(reached, r)) {
                    long bit = bitOfPair(automaton, r, afterLower | below(reached, r));
                    if (bit == 0) {
                        return false;
                    }
                    bits |= bit;
                }
            }
            int cell = at * LETTERS + letter;
            if (cell >= 0 && cell < targets.length) {
                targets[cell] = bits;
            }
            return true;
        }

        private long bitOfPair(Automaton automaton, int q, int lower) {
            boolean isFinal = contains(automaton.finals, q) && (lower & automaton.finals) == 0;
            return bitOf(q * SETS + lower, isFinal);
        }

        private static int below(int set, int state) {
            return set & (1 << state) - 1;
        }

        long targetsOf(int state, int letter) {
            boolean there = state >= 0 && state < count && state < RESULT_ROOM && isLetter(letter);
            return there ? targets[state * LETTERS + letter] : 0;
        }

        /** Both constructions are unambiguous: an accepted word has exactly one accepting path. */
        boolean accepts(Word word) {
            long reached = initials;
            for (int i = 0; i < word.length; i++) {
                long next = 0;
                for (int s = 0; s < count; s++) {
                    next |= (reached >> s & 1) != 0 ? targetsOf(s, word.letterAt(i)) : 0;
                }
                reached = next;
            }
            return (reached & finals) != 0;
        }
    }
}
