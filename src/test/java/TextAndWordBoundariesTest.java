import java.util.function.Supplier;

/** Promises 15 to 21, sentence by sentence, at the bounds that they name. */
public final class TextAndWordBoundariesTest {
    private static final int NO_SUCH_ELEMENT = AmbiguityAnalyzer.NO_SUCH_ELEMENT;
    private static final int OUT_OF_RANGE = AmbiguityAnalyzer.OUT_OF_RANGE;
    private static final int FULL = AmbiguityAnalyzer.FULL;
    private static final Supplier<AmbiguityAnalyzer> BUSY = Busy::analyzer;
    private static final String TWENTY_LETTERS = "abcabcabcabcabcabcab";
    private static final Supplier<AmbiguityAnalyzer> BUSY_WITH_20_LETTERS = () -> Busy.withWord(TWENTY_LETTERS);

    public static void main(String[] args) {
        promise15();
        promise16();
        parseAnswers();
        promise17();
        promises18And19();
        promise20();
        promise21();
        Sentences.endOfPromises(15, 21);
    }

    /** A text of the grammar with exactly that many characters, five or more. */
    private static String textOf(int length) {
        StringBuilder text = new StringBuilder();
        while (length - text.length() > 8) {
            text.append("1a2;");
        }
        String[] ends = {"3!;>4", "1b1;5!", "1b1;2c2", "2!;>3;4!"};
        return text.append(ends[length - text.length() - 5]).toString();
    }

    private static void promise15() {
        Sentences.promise(15, "Appends one character to the text buffer.", () -> {
            AmbiguityAnalyzer x = Due.analyzer(6, "");
            for (String item : new String[] {">5", "0!", "5c0"}) {
                Due.be("parse() of " + item, Due.parsed(x, item), 1);
            }
            Due.same("the automaton", Observed.automaton(x), Observed.automaton(Due.analyzer(6, ">5;0!;5c0")));
        });
        Sentences.promise(15, "`character`: the character code, 32 to 126", () -> {
            AmbiguityAnalyzer x = new AmbiguityAnalyzer();
            for (int i = 0; i <= 126 - 32; i++) {
                Due.be("append(" + (32 + i) + ")", x.append(32 + i), i % 60 + 1);
                if (i == 59) {
                    Due.be("parse() of 60 characters", x.parse(), -100);
                }
            }
        });
        Sentences.promise(15, "Returns the new length of the text", () -> {
            AmbiguityAnalyzer x = new AmbiguityAnalyzer();
            for (int length = 1; length <= 60; length++) {
                Due.be("append('0')", x.append('0'), length);
            }
            x.parse();
            Due.be("append('0') to the empty text", x.append('0'), 1);
        });
        Sentences.promise(15, "OUT_OF_RANGE if character is not from 32 to 126", () -> {
            Refusal.outside("append(?)", OUT_OF_RANGE, BUSY, AmbiguityAnalyzer::append, 32, 126);
            // '0' with a bit more, and numbers of which the lowest bits are '0'.
            Refusal.each("append(?)", OUT_OF_RANGE, BUSY, AmbiguityAnalyzer::append, 0, 128 + '0', 256 + '0', 65536 + '0');
        });
        Sentences.promise(15, "FULL if the text has 60 characters.", () -> {
            String text = textOf(60);
            AmbiguityAnalyzer x = Busy.withText(text.substring(0, 59));
            Due.be("the 60th", x.append(text.charAt(59)), 60);
            Due.same("the state behind it", Observed.all(x), Observed.all(Busy.withText(text)));
            Refusal.each("append(?) as the 61st", FULL, () -> Busy.withText(text), AmbiguityAnalyzer::append, ';', 32, 126);
        });
    }

    private static void promise16() {
        Sentences.promise(16, "Parses the text and adds all its items to the automaton.", () -> {
            AmbiguityAnalyzer x = Due.analyzer(6, ">1;2!;3a3");
            Due.be("parse()", Due.parsed(x, ">0;>5;0!;5!;0a0;5c5;0b5;5b0;5!;4c4"), 10);
            String due = ">1;2!;3a3;>0;>5;0!;5!;0a0;5c5;0b5;5b0;4c4";
            Due.same("the automaton", Observed.automaton(x), Observed.automaton(Due.analyzer(6, due)));
        });
        Sentences.promise(16, "Nothing is added if the text does not follow the grammar.", () -> {
            String[] wrong = {">0;1!;2a1;", ">0;1!;2a1;6!", ">0;1!;2a1;0a", ">0;1!;2a1 ", ">", textOf(57) + ";6!", "~"};
            for (String text : wrong) {
                AmbiguityAnalyzer x = Busy.withText(text);
                String before = Observed.automaton(x);
                Due.be("parse() of " + text, x.parse() <= -100);
                Due.same("the automaton", Observed.automaton(x), before);
            }
        });
        Sentences.promise(16, "The text buffer is empty afterwards in every case.", () -> {
            String[] texts = {"", "0!", textOf(60), "x", "0!;", ">", textOf(57) + ";6!", "0a1;1b"};
            for (String text : texts) {
                AmbiguityAnalyzer x = Busy.withText(text);
                x.parse();
                Due.be("parse() behind parse() of " + text, x.parse(), -100);
                Due.be("append behind parse() of " + text, x.append('5'), 1);
                Due.be("append behind parse() of " + text, x.append('!'), 2);
                Due.be("parse() behind parse() of " + text, x.parse(), 1);
            }
        });
    }

    private static void parseAnswers() {
        Sentences.promise(16, "Returns the number of items", () -> {
            Due.be("one item", Busy.withText("0!").parse(), 1);
            String text = "0!";
            for (int items = 2; items <= 20; items++) {
                text += ";0!";
                Due.be("parse() of " + text, Busy.withText(text).parse(), items);
            }
            Due.be("a text of 59", text.length(), 59);
            Due.be("parse() of 60 characters", Busy.withText("5c5;" + text.substring(3)).parse(), 20);
        });
        Sentences.promise(16, "-100 minus the error position if the text does not follow the grammar.", () -> {
            refusesText("", 0);
            refusesText("x", 0);
            refusesText(">", 1);
            refusesText(textOf(55) + ";5!;", 59);
            refusesText(textOf(59) + "!", 59);
            refusesText(textOf(59) + ";", 60);
            refusesText(textOf(57) + ";0b", 60);
            refusesText("x" + textOf(59), 0);
        });
    }

    /** The state behind the call is the one before it, but for the text, which is empty. */
    private static void refusesText(String text, int position) {
        AmbiguityAnalyzer x = Busy.withText(text);
        Due.be("parse() of " + text, x.parse(), -100 - position);
        Due.same("the state behind parse() of " + text, Observed.all(x), Observed.all(Busy.withText("")));
    }

    private static void promise17() {
        Sentences.promise(17, "Appends one letter to the current word, which is empty at first.", () -> {
            AmbiguityAnalyzer x = new AmbiguityAnalyzer();
            Due.be("wordLength() at first", x.wordLength(), 0);
            Due.be("wordLetter(0) at first", x.wordLetter(0), NO_SUCH_ELEMENT);
            x.appendLetter(2);
            x.appendLetter(0);
            Due.be("wordLetter(0)", x.wordLetter(0), 2);
            Due.be("wordLetter(1)", x.wordLetter(1), 0);
        });
        Sentences.promise(17, "`letter`: the letter, 0 to 2", () -> {
            AmbiguityAnalyzer x = new AmbiguityAnalyzer();
            for (int letter = 0; letter < 3; letter++) {
                Due.be("appendLetter(" + letter + ")", x.appendLetter(letter), letter + 1);
                Due.be("wordLetter(" + letter + ")", x.wordLetter(letter), letter);
            }
        });
        Sentences.promise(17, "Returns the new length of the word", () -> {
            AmbiguityAnalyzer x = new AmbiguityAnalyzer();
            for (int length = 1; length <= 20; length++) {
                Due.be("appendLetter(1)", x.appendLetter(1), length);
            }
            x.clearWord();
            Due.be("appendLetter(1) to the empty word", x.appendLetter(1), 1);
        });
        Sentences.promise(17, "NO_SUCH_ELEMENT if there is no such letter", () -> {
            Refusal.outside("appendLetter(?)", NO_SUCH_ELEMENT, BUSY, AmbiguityAnalyzer::appendLetter, 0, 2);
            Refusal.each("appendLetter(?)", NO_SUCH_ELEMENT, BUSY, AmbiguityAnalyzer::appendLetter, 4, 'a', 'c', 256);
        });
        Sentences.promise(17, "FULL if the word has 20 letters.", () -> {
            AmbiguityAnalyzer x = Busy.withWord(TWENTY_LETTERS.substring(0, 19));
            Due.be("the 20th", x.appendLetter(1), 20);
            Due.same("the state behind it", Observed.all(x), Observed.all(BUSY_WITH_20_LETTERS.get()));
            Refusal.each("appendLetter(?) as the 21st", FULL, BUSY_WITH_20_LETTERS, AmbiguityAnalyzer::appendLetter, 0, 1, 2);
        });
    }

    private static void promises18And19() {
        Sentences.promise(18, "Empties the current word.", () -> {
            for (String word : new String[] {"", "c", TWENTY_LETTERS}) {
                AmbiguityAnalyzer x = Busy.withWord(word);
                x.clearWord();
                Due.be("wordLength() behind " + word, x.wordLength(), 0);
                Due.be("wordLetter(0) behind " + word, x.wordLetter(0), NO_SUCH_ELEMENT);
                Due.same("the state", Observed.all(x), Observed.all(Busy.withWord("")));
            }
        });
        Sentences.promise(18, "Returns its previous length.", () -> {
            AmbiguityAnalyzer x = new AmbiguityAnalyzer();
            Due.be("clearWord() at first", x.clearWord(), 0);
            Due.word(x, "b");
            Due.be("clearWord() of one letter", x.clearWord(), 1);
            Due.be("clearWord() again", x.clearWord(), 0);
            Due.word(x, TWENTY_LETTERS);
            Due.be("clearWord() of a full word", x.clearWord(), 20);
            Due.be("clearWord() again", x.clearWord(), 0);
        });
        Sentences.promise(19, "Returns the length of the current word.", () -> {
            AmbiguityAnalyzer x = Due.analyzer(1, ">0;0!");
            Due.word(x, "bca");
            Due.be("wordLength()", x.wordLength(), 3);
            Due.be("takeWitness(3)", x.takeWitness(3), 0);
            Due.be("wordLength() of the witness", x.wordLength(), 0);
        });
        Sentences.promise(19, "Returns 0 to 20.", () -> {
            AmbiguityAnalyzer x = new AmbiguityAnalyzer();
            Due.be("wordLength() at first", x.wordLength(), 0);
            Due.word(x, TWENTY_LETTERS);
            Due.be("wordLength() of a full word", x.wordLength(), 20);
            x.appendLetter(0);
            Due.be("wordLength() when nothing more fits", x.wordLength(), 20);
            x.clearWord();
            x.clearWord();
            Due.be("wordLength() of no word", x.wordLength(), 0);
        });
    }

    private static void promise20() {
        Sentences.promise(20, "Returns a letter of the current word.", () -> {
            AmbiguityAnalyzer x = new AmbiguityAnalyzer();
            Due.word(x, "cab");
            x.clearWord();
            Due.word(x, "ba");
            Due.be("wordLetter(0)", x.wordLetter(0), 1);
            Due.be("wordLetter(2) of the word before", x.wordLetter(2), NO_SUCH_ELEMENT);
        });
        Sentences.promise(20, "`i`: the position, from 0", () -> {
            AmbiguityAnalyzer x = new AmbiguityAnalyzer();
            Due.word(x, "c");
            Due.be("wordLetter(0)", x.wordLetter(0), 2);
            Due.be("wordLetter(1)", x.wordLetter(1), NO_SUCH_ELEMENT);
            Due.be("wordLetter(-1)", x.wordLetter(-1), NO_SUCH_ELEMENT);
        });
        Sentences.promise(20, "Returns the letter", () -> {
            AmbiguityAnalyzer x = new AmbiguityAnalyzer();
            Due.word(x, TWENTY_LETTERS);
            for (int i = 0; i < 20; i++) {
                Due.be("wordLetter(" + i + ")", x.wordLetter(i), i % 3);
            }
        });
        Sentences.promise(20, "NO_SUCH_ELEMENT if there is no such position.", () -> {
            Refusal.outside("wordLetter(?) of 3", NO_SUCH_ELEMENT, BUSY, AmbiguityAnalyzer::wordLetter, 0, 2);
            Refusal.outside("wordLetter(?) of 20", NO_SUCH_ELEMENT, BUSY_WITH_20_LETTERS, AmbiguityAnalyzer::wordLetter, 0, 19);
            Refusal.each("wordLetter(?) of the empty word", NO_SUCH_ELEMENT, () -> Busy.withWord(""),
                AmbiguityAnalyzer::wordLetter, -1, 0, 1, 20);
        });
    }

    private static void promise21() {
        Sentences.promise(21, "Returns the ambiguity of the current word.", () -> {
            AmbiguityAnalyzer x = Due.analyzer(3, ">0;2!;0a1;0a2;1a2;2a2;1b2");
            Due.be("the empty word", x.wordAmbiguity(), 0);
            Due.word(x, "a");
            Due.be("one letter", x.wordAmbiguity(), 1);
            Due.word(x, "aa");
            Due.be("two letters", x.wordAmbiguity(), 2);
            Due.word(x, "ab");
            Due.be("another word", x.wordAmbiguity(), 1);
            Due.word(x, "ba");
            Due.be("no path", x.wordAmbiguity(), 0);
        });
        Sentences.promise(21, "Returns the number of accepting paths.", () -> {
            Due.be("a new analyzer", new AmbiguityAnalyzer().wordAmbiguity(), 0);
            AmbiguityAnalyzer x = Due.analyzer(6, ">0;>1;>2;>3;>4;>5;0!;1!;2!;3!;4!;5!");
            for (int i = 0; i < 36; i++) {
                x.addTransition(i / 6, 0, i % 6);
            }
            long paths = 6;
            for (int length = 0; length <= 20; length++) {
                Due.be("a to the " + length, x.wordAmbiguity(), paths);
                x.appendLetter(0);
                paths *= 6;
            }
            Due.be("6 to the 21st", x.wordAmbiguity(), 21936950640377856L);
        });
    }
}
