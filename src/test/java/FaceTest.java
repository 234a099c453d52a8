import java.lang.reflect.Constructor;
import java.lang.reflect.Field;
import java.lang.reflect.Method;
import java.lang.reflect.Modifier;
import java.util.Arrays;
import java.util.Set;
import java.util.TreeSet;

/** The public face of the class is exactly the one of the document. */
public final class FaceTest {
    private static final String METHODS =
        "int reset(int); int stateCount(); int addTransition(int,int,int); int removeTransition(int,int,int);"
        + " int transitionCount(); int setInitial(int,boolean); int setFinal(int,boolean); int initialStates();"
        + " int finalStates(); int successors(int,int); int usefulStates(); int trim(); int randomize(int,int);"
        + " int append(int); int parse(); int appendLetter(int); int clearWord(); int wordLength();"
        + " int wordLetter(int); long wordAmbiguity(); long pathsOfLength(int); long wordsOfLength(int);"
        + " long averageBits(int); int kind(); int degree(); long maximumAmbiguity(); int isLoopState(int);"
        + " int isSplitPair(int,int); int witnessState(int); int witnessLength(int); int witnessLetter(int,int);"
        + " int takeWitness(int); int setWeight(int,int); int lightestWeight(); int build(int);"
        + " int resultStateCount(); long resultInitials(); long resultFinals(); long resultSuccessors(int,int);"
        + " long resultAmbiguity(); int keepWord(int); int keepCounts(int,int); int useWord(int);"
        + " long shelfElement(int,int); int save(); int restore()";
    private static final String CONSTANTS =
        "NO_SUCH_ELEMENT=-1 OUT_OF_RANGE=-2 FULL=-3 NONE=-4 TOO_LARGE=-5 OVERFLOW=-6 EMPTY_SHELF=-7 WRONG_TYPE=-8";

    public static void main(String[] args) throws IllegalAccessException {
        Class<?> face = AmbiguityAnalyzer.class;
        Due.be("the class is public and final",
            Modifier.isPublic(face.getModifiers()) && Modifier.isFinal(face.getModifiers()));
        methods(face);
        constants(face);
        Constructor<?>[] constructors = face.getDeclaredConstructors();
        Due.be("one public constructor without parameters", constructors.length == 1
            && Modifier.isPublic(constructors[0].getModifiers()) && constructors[0].getParameterCount() == 0);
        nested(face);
        Due.end();
    }

    private static void methods(Class<?> face) {
        Set<String> open = new TreeSet<>();
        Set<String> openNames = new TreeSet<>();
        Set<String> hiddenNames = new TreeSet<>();
        for (Method method : face.getDeclaredMethods()) {
            if (Modifier.isPrivate(method.getModifiers())) {
                hiddenNames.add(method.getName());
            } else {
                String parameters = Arrays.toString(method.getParameterTypes()).replaceAll("[\\[\\] ]", "");
                open.add(method.getReturnType() + " " + method.getName() + "(" + parameters + ")");
                openNames.add(method.getName());
                Due.be(method.getName() + " is public and no class method",
                    Modifier.isPublic(method.getModifiers()) && !Modifier.isStatic(method.getModifiers()));
            }
        }
        Due.same("the methods", open, new TreeSet<>(Arrays.asList(METHODS.split("; "))));
        hiddenNames.retainAll(openNames);
        Due.be("no private method bears a public name: " + hiddenNames, hiddenNames.isEmpty());
    }

    private static void constants(Class<?> face) throws IllegalAccessException {
        Set<String> open = new TreeSet<>();
        for (Field field : face.getDeclaredFields()) {
            if (!Modifier.isPrivate(field.getModifiers())) {
                Due.be(field.getName() + " is public static final int", field.getType() == int.class
                    && field.getModifiers() == (Modifier.PUBLIC | Modifier.STATIC | Modifier.FINAL));
                open.add(field.getName() + "=" + field.getInt(null));
            } else if (Modifier.isStatic(field.getModifiers())) {
                Due.be(field.getName() + " is final", Modifier.isFinal(field.getModifiers()));
            }
        }
        Due.same("the constants", open, new TreeSet<>(Arrays.asList(CONSTANTS.split(" "))));
    }

    private static void nested(Class<?> face) {
        Set<String> faceNames = new TreeSet<>();
        for (Method method : face.getMethods()) {
            faceNames.add(method.getName());
        }
        Class<?>[] classes = face.getDeclaredClasses();
        Due.be("at most twelve classes inside", classes.length <= 12);
        for (Class<?> inside : classes) {
            int modifiers = inside.getModifiers();
            Due.be(inside + " is static and not public", Modifier.isStatic(modifiers) && !Modifier.isPublic(modifiers));
            int fields = 0;
            for (Field field : inside.getDeclaredFields()) {
                fields += Modifier.isStatic(field.getModifiers()) ? 0 : 1;
                Due.be(inside + "." + field.getName() + " is no changeable class field",
                    !Modifier.isStatic(field.getModifiers()) || Modifier.isFinal(field.getModifiers()));
            }
            Due.be(inside + " has at most twenty fields", fields <= 20);
            for (Method method : inside.getDeclaredMethods()) {
                Due.be(inside + "." + method.getName() + " has a name of its own", !faceNames.contains(method.getName()));
                Due.be(inside + "." + method.getName() + " has at most seven parameters", method.getParameterCount() <= 7);
            }
        }
    }
}
