import java.lang.management.ManagementFactory;
import java.lang.reflect.Array;
import java.lang.reflect.Field;
import java.lang.reflect.Modifier;
import java.util.ArrayList;
import java.util.Collections;
import java.util.IdentityHashMap;
import java.util.List;
import java.util.Set;

/**
 * All calls of a run live in one room of 600,000 objects and 7.3 million fields and elements. An object
 * must be small enough even if each of 512 calls makes one, and calls that come again make nothing more.
 */
public final class RoomTest {
    public static void main(String[] args) throws IllegalAccessException {
        size();
        callsMakeNothing();
        Due.end();
    }

    private static void size() throws IllegalAccessException {
        AmbiguityAnalyzer x = new AmbiguityAnalyzer();
        Due.be("512 new objects fit", fits(x, 512));
        Due.be("maximumAmbiguity()", x.maximumAmbiguity(), 0);
        Due.be("256 objects of which each has counted its rows fit", fits(x, 256));
    }

    private static boolean fits(AmbiguityAnalyzer x, int times) throws IllegalAccessException {
        Set<Object> seen = Collections.newSetFromMap(new IdentityHashMap<>());
        List<Object> todo = new ArrayList<>(List.of(x));
        long cells = 0;
        while (!todo.isEmpty()) {
            Object object = todo.remove(todo.size() - 1);
            if (seen.add(object)) {
                cells += object.getClass().isArray() ? elements(object, todo) : fields(object, todo);
            }
        }
        System.out.println("an object: " + seen.size() + " objects and arrays, " + cells + " fields and elements");
        return seen.size() * times < 600000 && cells * times < 7300000;
    }

    private static long elements(Object array, List<Object> todo) {
        for (int i = 0; !array.getClass().getComponentType().isPrimitive() && i < Array.getLength(array); i++) {
            todo.add(Array.get(array, i));
        }
        return Array.getLength(array);
    }

    private static long fields(Object object, List<Object> todo) throws IllegalAccessException {
        long count = 0;
        for (Field field : object.getClass().getDeclaredFields()) {
            if (!Modifier.isStatic(field.getModifiers())) {
                count++;
                field.setAccessible(true);
                Object value = field.get(object);
                if (!field.getType().isPrimitive() && value != null) {
                    todo.add(value);
                }
            }
        }
        return count;
    }

    private static void callsMakeNothing() {
        com.sun.management.ThreadMXBean bean = (com.sun.management.ThreadMXBean) ManagementFactory.getThreadMXBean();
        long id = Thread.currentThread().getId();
        long made = 0;
        for (int i = 0; i < 25; i++) {
            // Four rounds are some 400 calls, and an object is good for 512.
            AmbiguityAnalyzer x = new AmbiguityAnalyzer();
            everything(x);
            long before = bean.getThreadAllocatedBytes(id);
            for (int round = 0; round < 3; round++) {
                everything(x);
            }
            made += bean.getThreadAllocatedBytes(id) - before;
        }
        // The measuring makes a few objects of its own.
        Due.be("75 rounds of all calls made " + made + " bytes", made < 20000);
    }

    private static void everything(AmbiguityAnalyzer x) {
        x.reset(6);
        x.randomize(7, 20);
        x.setInitial(0, true);
        x.setFinal(3, true);
        x.save();
        x.removeTransition(0, 0, 0);
        x.addTransition(0, 0, 0);
        x.transitionCount();
        x.successors(1, 1);
        x.usefulStates();
        x.append('>');
        x.append('1');
        x.parse();
        x.append('x');
        x.parse();
        for (int w = 0; w < 4; w++) {
            x.witnessState(w);
            x.witnessLength(w);
            x.witnessLetter(w, 1);
            x.takeWitness(w);
        }
        for (int i = 0; i < 6; i++) {
            x.isLoopState(i);
            x.isSplitPair(i, 1);
            x.appendLetter(i % 3);
        }
        x.wordAmbiguity();
        x.pathsOfLength(60);
        x.wordsOfLength(60);
        x.averageBits(9);
        x.kind();
        x.degree();
        x.maximumAmbiguity();
        x.setWeight(1, 3);
        x.lightestWeight();
        x.build(0);
        x.build(1);
        x.resultAmbiguity();
        x.keepWord(0);
        x.keepCounts(1, 9);
        x.useWord(0);
        x.shelfElement(1, 3);
        x.clearWord();
        x.reset(3);
        x.setInitial(0, true);
        x.setInitial(1, true);
        x.setFinal(0, true);
        x.setFinal(1, true);
        x.addTransition(0, 0, 1);
        x.maximumAmbiguity();
        x.trim();
        x.restore();
    }
}
