/** Compares answers with those that are due, and ends a test with exit code 1 if one was wrong. */
final class Due {
    private static int checked = 0;
    private static int wrong = 0;
    private static String subject = "";

    private Due() {
    }

    /** Says what the answers from now on are about; it stands before each answer that is not as due. */
    static void about(String newSubject) {
        subject = newSubject.isEmpty() ? "" : newSubject + "\n    ";
    }

    static int checkedSoFar() {
        return checked;
    }

    static void be(String call, long got, long want) {
        checked++;
        if (got != want) {
            wrong++;
            System.out.println(subject + call + " answered " + got + ", due is " + want);
        }
    }

    static void be(String what, boolean holds) {
        checked++;
        if (!holds) {
            wrong++;
            System.out.println(subject + "does not hold: " + what);
        }
    }

    /** Appends the text to the text buffer of the analyzer, and parses it. */
    static int parsed(AmbiguityAnalyzer x, String text) {
        for (int i = 0; i < text.length(); i++) {
            be("append '" + text.charAt(i) + "' of " + text, x.append(text.charAt(i)), i + 1);
        }
        return x.parse();
    }

    /** A new analyzer with that many states and the items, added one by one. */
    static AmbiguityAnalyzer analyzer(int states, String items) {
        AmbiguityAnalyzer x = new AmbiguityAnalyzer();
        be("reset(" + states + ")", x.reset(states), 1);
        fill(x, items);
        return x;
    }

    /** Adds the items, each of which is new, by a call each: an object is good for 512 calls only. */
    static void fill(AmbiguityAnalyzer x, String items) {
        for (String item : items.isEmpty() ? new String[0] : items.split(";")) {
            int first = item.charAt(0) - '0';
            if (item.charAt(0) == '>') {
                be("setInitial for " + item, x.setInitial(item.charAt(1) - '0', true), 0);
            } else if (item.charAt(1) == '!') {
                be("setFinal for " + item, x.setFinal(first, true), 0);
            } else {
                be("addTransition for " + item, x.addTransition(first, item.charAt(1) - 'a', item.charAt(2) - '0'), 1);
            }
        }
    }

    /** Replaces the current word. */
    static void word(AmbiguityAnalyzer x, String letters) {
        x.clearWord();
        for (int i = 0; i < letters.length(); i++) {
            be("appendLetter for " + letters, x.appendLetter(letters.charAt(i) - 'a'), i + 1);
        }
    }

    /** The letters of a witness, null if there is no such word. */
    static String witness(AmbiguityAnalyzer x, int witness) {
        int length = x.witnessLength(witness);
        if (length < 0) {
            return null;
        }
        StringBuilder letters = new StringBuilder();
        for (int i = 0; i < length; i++) {
            letters.append((char) ('a' + x.witnessLetter(witness, i)));
        }
        return letters.toString();
    }

    static void same(String what, Object got, Object want) {
        checked++;
        if (got == null ? want != null : !got.equals(want)) {
            wrong++;
            System.out.println(subject + what + " answered " + got + ", due is " + want);
        }
    }

    static void end() {
        System.out.println(checked + " answers, " + wrong + " not as due");
        if (wrong != 0 || checked == 0) {
            System.exit(1);
        }
    }
}
