/** Promises 22 to 24: the numbers of paths and words, and their quotient. */
public final class CountPromisesTest {
    private static final int[] NO_LENGTHS = {-1, 61, Integer.MIN_VALUE, Integer.MAX_VALUE};

    public static void main(String[] args) {
        small();
        greatestLong();
        words();
        overflowOnTheWay();
        averages();
        Due.end();
    }

    private static void small() {
        AmbiguityAnalyzer x = Due.analyzer(2, ">0;>1;0!;1!;0a1;1b0;1a1");
        Due.be("22: pathsOfLength(0)", x.pathsOfLength(0), 2);
        Due.be("23: wordsOfLength(0)", x.wordsOfLength(0), 1);
        Due.be("22: pathsOfLength(1)", x.pathsOfLength(1), 3);
        Due.be("23: wordsOfLength(1)", x.wordsOfLength(1), 2);
        Due.be("24: averageBits(1)", x.averageBits(1), Double.doubleToLongBits(1.5));
        Due.be("22: pathsOfLength(2)", x.pathsOfLength(2), 5);
        Due.be("23: wordsOfLength(2)", x.wordsOfLength(2), 3);
        Due.be("24: averageBits(2)", x.averageBits(2), Double.doubleToLongBits(5.0 / 3.0));
        for (int wrong : NO_LENGTHS) {
            Due.be("22: length " + wrong, x.pathsOfLength(wrong), AmbiguityAnalyzer.OUT_OF_RANGE);
            Due.be("23: length " + wrong, x.wordsOfLength(wrong), AmbiguityAnalyzer.OUT_OF_RANGE);
            Due.be("24: length " + wrong, x.averageBits(wrong), AmbiguityAnalyzer.OUT_OF_RANGE);
        }
        AmbiguityAnalyzer none = new AmbiguityAnalyzer();
        for (int length = 0; length <= 60; length += 20) {
            Due.be("22: none", none.pathsOfLength(length), 0);
            Due.be("23: none", none.wordsOfLength(length), 0);
            Due.be("24: none", none.averageBits(length), 0x7ff8000000000000L);
        }
    }

    /** 2 * 4^n - 1 paths of length n, which is the greatest long for n = 31. */
    private static void greatestLong() {
        AmbiguityAnalyzer x = Due.analyzer(6, ">0;0!;0a0;1!;2!"
            + ";0a1;0b1;0c1;0a2;0b2;0c2;1a1;1a2;2a1;2a2;1b1;1b2;2b1;2b2");
        Due.be("22: pathsOfLength(3)", x.pathsOfLength(3), 127);
        Due.be("22: pathsOfLength(30)", x.pathsOfLength(30), (1L << 61) - 1);
        Due.be("22: the greatest long", x.pathsOfLength(31), Long.MAX_VALUE);
        Due.be("22: beyond it", x.pathsOfLength(32), AmbiguityAnalyzer.OVERFLOW);
        Due.be("22: far beyond it", x.pathsOfLength(60), AmbiguityAnalyzer.OVERFLOW);
        Due.be("24: the greatest long", x.averageBits(31),
            Double.doubleToLongBits((double) Long.MAX_VALUE / (double) x.wordsOfLength(31)));
        x.setInitial(3, true);
        x.setFinal(3, true);
        x.addTransition(3, 2, 3);
        Due.be("22: one path more", x.pathsOfLength(31), AmbiguityAnalyzer.OVERFLOW);
        Due.be("24: one path more", x.averageBits(31), AmbiguityAnalyzer.OVERFLOW);
        Due.be("22: one path more of length 30", x.pathsOfLength(30), 1L << 61);
    }

    private static void words() {
        AmbiguityAnalyzer x = Due.analyzer(1, ">0;0!;0a0;0b0;0c0");
        Due.be("23: 3 to the 39th", x.wordsOfLength(39), 4052555153018976267L);
        Due.be("23: 3 to the 40th", x.wordsOfLength(40), AmbiguityAnalyzer.OVERFLOW);
        Due.be("24: 1", x.averageBits(39), Double.doubleToLongBits(1.0));
        Due.be("24: both overflow", x.averageBits(40), AmbiguityAnalyzer.OVERFLOW);
        AmbiguityAnalyzer twice = Due.analyzer(6, ">0;>1;>2;0!;1!;2!");
        for (int i = 0; i < 9; i++) {
            twice.addTransition(i / 3, i % 3, i / 3);
        }
        Due.be("23: each word once", twice.wordsOfLength(39), 4052555153018976267L);
        Due.be("22: three paths each", twice.pathsOfLength(38), 3 * 1350851717672992089L);
        Due.be("22: three paths each, too many", twice.pathsOfLength(39), AmbiguityAnalyzer.OVERFLOW);
        Due.be("24: only the paths overflow", twice.averageBits(39), AmbiguityAnalyzer.OVERFLOW);
        Due.be("24: 3", twice.averageBits(38), Double.doubleToLongBits(3.0));
    }

    /** Paths and words that are too many on the way, but do not count in the end. */
    private static void overflowOnTheWay() {
        String explosion = ";1a1;1b1;1c1;2a2;2b2;2c2;1a2;2a1;1b2;2b1;1c2;2c1";
        AmbiguityAnalyzer x = Due.analyzer(3, ">0;0!;0a0;0a1;>1;>2" + explosion);
        Due.be("22: useless paths do not count", x.pathsOfLength(60), 1);
        Due.be("23: useless words do not count", x.wordsOfLength(60), 1);
        Due.be("24: useless paths do not count", x.averageBits(60), Double.doubleToLongBits(1.0));
        // Two groups of states in turn: words of odd length end in the first group only.
        AmbiguityAnalyzer turn = Due.analyzer(6, ">0;>1;>2;0!;1!;2!");
        for (int i = 0; i < 27; i++) {
            turn.addTransition(i / 9, i / 3 % 3, 3 + i % 3);
            turn.addTransition(3 + i / 9, i / 3 % 3, i % 3);
        }
        Due.be("22: no path of length 59", turn.pathsOfLength(59), 0);
        Due.be("22: many of length 60", turn.pathsOfLength(60), AmbiguityAnalyzer.OVERFLOW);
        Due.be("23: no word of length 59", turn.wordsOfLength(59), 0);
        Due.be("23: many of length 60", turn.wordsOfLength(60), AmbiguityAnalyzer.OVERFLOW);
        Due.be("24: no word of length 59", turn.averageBits(59), 0x7ff8000000000000L);
    }

    private static void averages() {
        for (int n = 1; n <= 6; n++) {
            AmbiguityAnalyzer x = new AmbiguityAnalyzer();
            x.reset(n);
            x.setInitial(0, true);
            for (int i = 0; i < n * n; i++) {
                x.addTransition(i / n, 0, i % n);
                x.setFinal(i % n, true);
            }
            // With b there is one path only, so that the quotients are not whole.
            x.addTransition(0, 1, 0);
            for (int length = 0; length <= 60; length++) {
                long paths = x.pathsOfLength(length);
                long words = x.wordsOfLength(length);
                long due = paths < 0 || words < 0 ? -6 : Double.doubleToLongBits((double) paths / (double) words);
                Due.be("24: " + n + " states, length " + length, x.averageBits(length), due);
            }
        }
        AmbiguityAnalyzer great = Due.analyzer(6, ">0");
        for (int i = 0; i < 36; i++) {
            great.addTransition(i / 6, 0, i % 6);
            great.setFinal(i % 6, true);
        }
        Due.be("24: 6 to the 24th", great.averageBits(24), Double.doubleToLongBits((double) 4738381338321616896L));
        Due.be("24: 6 to the 25th", great.averageBits(25), AmbiguityAnalyzer.OVERFLOW);
    }
}
