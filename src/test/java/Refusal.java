import java.util.function.Supplier;
import java.util.function.ToLongFunction;

/** Calls that are refused: the answer, and the state behind the call, which is the one before it. */
final class Refusal {
    interface WithInt {
        long on(AmbiguityAnalyzer x, int value);
    }

    private Refusal() {
    }

    static void is(String call, long error, Supplier<AmbiguityAnalyzer> made, ToLongFunction<AmbiguityAnalyzer> refused) {
        AmbiguityAnalyzer x = made.get();
        Due.be(call, refused.applyAsLong(x), error);
        Due.same("the state behind " + call, Observed.all(x), Observed.all(made.get()));
    }

    /** The same for each of the values; what the call of a value is named stands in the name with a ?. */
    static void each(String call, long error, Supplier<AmbiguityAnalyzer> made, WithInt refused, int... values) {
        for (int value : values) {
            is(call.replace("?", "" + value), error, made, x -> refused.on(x, value));
        }
    }

    /** The smallest and the greatest int, and those just outside of first to last. */
    static void outside(String call, long error, Supplier<AmbiguityAnalyzer> made, WithInt refused, int first, int last) {
        each(call, error, made, refused, first - 1, last + 1, Integer.MIN_VALUE, Integer.MAX_VALUE);
    }
}
