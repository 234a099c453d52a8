/** Compares answers with those that are due, and ends a test with exit code 1 if one was wrong. */
final class Due {
    private static int checked = 0;
    private static int wrong = 0;

    private Due() {
    }

    static void be(String call, long got, long want) {
        checked++;
        if (got != want) {
            wrong++;
            System.out.println(call + " answered " + got + ", due is " + want);
        }
    }

    static void be(String what, boolean holds) {
        checked++;
        if (!holds) {
            wrong++;
            System.out.println("does not hold: " + what);
        }
    }

    /** Appends the text to the text buffer of the analyzer, and parses it. */
    static int parsed(AmbiguityAnalyzer x, String text) {
        for (int i = 0; i < text.length(); i++) {
            be("append '" + text.charAt(i) + "' of " + text, x.append(text.charAt(i)), i + 1);
        }
        return x.parse();
    }

    /** A new analyzer with that many states and the items of the text, which may be long. */
    static AmbiguityAnalyzer analyzer(int states, String items) {
        AmbiguityAnalyzer x = new AmbiguityAnalyzer();
        be("reset(" + states + ")", x.reset(states), 1);
        if (!items.isEmpty()) {
            for (String item : items.split(";")) {
                be("parse() of " + item, parsed(x, item), 1);
            }
        }
        return x;
    }

    /** Replaces the current word. */
    static void word(AmbiguityAnalyzer x, String letters) {
        x.clearWord();
        for (int i = 0; i < letters.length(); i++) {
            be("appendLetter for " + letters, x.appendLetter(letters.charAt(i) - 'a'), i + 1);
        }
    }

    /** The letters of a witness, null if there is no such word. */
    static String witness(AmbiguityAnalyzer x, int witness) {
        int length = x.witnessLength(witness);
        if (length < 0) {
            return null;
        }
        StringBuilder letters = new StringBuilder();
        for (int i = 0; i < length; i++) {
            letters.append((char) ('a' + x.witnessLetter(witness, i)));
        }
        return letters.toString();
    }

    static void same(String what, Object got, Object want) {
        checked++;
        if (got == null ? want != null : !got.equals(want)) {
            wrong++;
            System.out.println(what + " answered " + got + ", due is " + want);
        }
    }

    static void end() {
        System.out.println(checked + " answers, " + wrong + " not as due");
        if (wrong != 0 || checked == 0) {
            System.exit(1);
        }
    }
}
