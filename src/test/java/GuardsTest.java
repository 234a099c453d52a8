import java.lang.reflect.Constructor;
import java.lang.reflect.Field;
import java.lang.reflect.InvocationTargetException;
import java.lang.reflect.Method;
import java.lang.reflect.Modifier;
import java.util.ArrayList;
import java.util.Arrays;
import java.util.List;

/**
 * LANGUAGE.md, rule 7: "an index is looked at before it is used, a divisor before it divides, a reference against
 * null before it is used". So each method of the file, the private ones too, is called with numbers far out of
 * every range, and the machine must not throw, whoever calls it.
 */
public final class GuardsTest {
    // No greater ones: some methods take a number of rounds.
    private static final int[] NUMBERS = {
        Integer.MIN_VALUE, -1000000, -65, -1, 0, 1, 2, 3, 5, 6, 7, 31, 60, 61, 63, 64, 65, 384, 1000, 4096, 1000000
    };

    public static void main(String[] args) throws ReflectiveOperationException {
        List<Class<?>> classes = new ArrayList<>(List.of(AmbiguityAnalyzer.class.getDeclaredClasses()));
        classes.add(AmbiguityAnalyzer.class);
        for (Class<?> type : classes) {
            for (Method method : type.getDeclaredMethods()) {
                method.setAccessible(true);
                callWithAllNumbers(type, method);
            }
        }
        Due.end();
    }

    private static void callWithAllNumbers(Class<?> type, Method method) throws ReflectiveOperationException {
        int numbers = (int) Arrays.stream(method.getParameterTypes()).filter(GuardsTest::isNumber).count();
        int calls = 1;
        for (int i = 0; i < numbers; i++) {
            calls *= NUMBERS.length;
        }
        String thrown = null;
        for (int call = 0; call < calls && thrown == null; call++) {
            thrown = thrownBy(type, method, call);
        }
        Due.same("what " + type.getSimpleName() + "." + method.getName() + " throws", thrown, null);
    }

    private static boolean isNumber(Class<?> type) {
        return type == int.class || type == long.class;
    }

    /** What the call of that number throws, with its arguments; null if it throws nothing. */
    private static String thrownBy(Class<?> type, Method method, int call) throws ReflectiveOperationException {
        // Analyzers of its own for each call, since a number out of range may spoil what it is given to.
        Object self = Modifier.isStatic(method.getModifiers()) ? null : partOf(busy(), type);
        AmbiguityAnalyzer other = busy();
        Class<?>[] types = method.getParameterTypes();
        Object[] arguments = new Object[types.length];
        int rest = call;
        for (int i = 0; i < types.length; i++) {
            int number = NUMBERS[rest % NUMBERS.length];
            rest = isNumber(types[i]) ? rest / NUMBERS.length : rest;
            arguments[i] = argument(other, types[i], number);
        }
        try {
            method.invoke(self, arguments);
        } catch (InvocationTargetException e) {
            return e.getCause() + " for " + Arrays.toString(arguments);
        }
        return null;
    }

    private static Object argument(AmbiguityAnalyzer other, Class<?> type, int number) throws ReflectiveOperationException {
        if (type == int.class) {
            return number;
        }
        if (type == long.class) {
            return (long) number;
        }
        if (type == boolean.class) {
            return true;
        }
        if (type == int[].class) {
            return new int[3];
        }
        return type == long[].class ? new long[31] : partOf(other, type);
    }

    /** The analyzer itself or the part of it that is of the class, a new one if it has none yet. */
    private static Object partOf(AmbiguityAnalyzer x, Class<?> type) throws ReflectiveOperationException {
        for (Field field : AmbiguityAnalyzer.class.getDeclaredFields()) {
            if (field.getType() == type) {
                field.setAccessible(true);
                if (field.get(x) != null) {
                    return field.get(x);
                }
            }
        }
        if (type == AmbiguityAnalyzer.class) {
            return x;
        }
        Constructor<?> constructor = type.getDeclaredConstructor();
        constructor.setAccessible(true);
        return constructor.newInstance();
    }

    private static AmbiguityAnalyzer busy() {
        AmbiguityAnalyzer x = new AmbiguityAnalyzer();
        x.reset(6);
        x.randomize(7, 20);
        x.setInitial(0, true);
        x.setInitial(4, true);
        x.setFinal(3, true);
        x.append('>');
        x.appendLetter(1);
        x.keepWord(0);
        x.save();
        return x;
    }
}
