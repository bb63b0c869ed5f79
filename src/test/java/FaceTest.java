import java.lang.reflect.Constructor;
import java.lang.reflect.Field;
import java.lang.reflect.Method;
import java.lang.reflect.Modifier;
import java.util.Arrays;
import java.util.Set;
import java.util.TreeSet;

/** The class has the document's face and nothing else that is not private. */
public final class FaceTest {
    private static final String[] FACE = {
        "int layOut(int,int,int) IllegalArgumentException",
        "int fill(int) IndexOutOfBoundsException",
        "int empty(int) IndexOutOfBoundsException",
        "int pour(int,int) IndexOutOfBoundsException,IllegalArgumentException",
        "int follow(int,int) IllegalArgumentException,IllegalStateException",
        "int jars() ",
        "int volumeOf(int) IndexOutOfBoundsException",
        "int amountOf(int) IndexOutOfBoundsException",
        "boolean isEmpty(int) IndexOutOfBoundsException",
        "boolean isFull(int) IndexOutOfBoundsException",
        "int heldInAll() ",
        "int acts() ",
        "int pouredInAll() ",
        "int spilledInAll() ",
        "int takenInAll() ",
        "boolean isThere(int) IllegalArgumentException",
        "int leastActs(int) IllegalArgumentException",
        "int leastActsIn(int,int) IndexOutOfBoundsException,IllegalArgumentException",
        "int nextAct(int) IllegalArgumentException,IllegalStateException",
        "int amountsToHave() ",
        "int statesToReach() ",
        "int statesAway(int) IllegalArgumentException",
        "int farthest() ",
        "int candidates() ",
        "boolean mayBe(int,int) IndexOutOfBoundsException,IllegalArgumentException",
        "boolean isKnown(int) IndexOutOfBoundsException",
        "boolean guess(int,int) IndexOutOfBoundsException,IllegalArgumentException,IllegalStateException",
        "int guesses() ",
        "int wrongGuesses() ",
        "int leftAtMost(int,int) IndexOutOfBoundsException,IllegalArgumentException",
        "int bestPour() ",
        "double meanAmount() ",
        "long digest() ",
    };

    public static void main(String[] args) {
        Checks checks = new Checks();
        checks.due("the class's modifiers", Modifier.toString(JarRiddle.class.getModifiers()), "public final");
        Set<String> methods = new TreeSet<>();
        Set<String> publicNames = new TreeSet<>();
        for (Method method : JarRiddle.class.getDeclaredMethods()) {
            if (!Modifier.isPrivate(method.getModifiers())) {
                methods.add(told(method));
                publicNames.add(method.getName());
                checks.due(method.getName(), Modifier.toString(method.getModifiers()), "public");
            }
        }
        checks.due("the methods", methods, new TreeSet<>(Arrays.asList(FACE)));
        for (Method method : JarRiddle.class.getDeclaredMethods()) {
            if (Modifier.isPrivate(method.getModifiers())) {
                checks.due(method.getName() + " is public too", publicNames.contains(method.getName()), false);
            }
        }
        for (Field field : JarRiddle.class.getDeclaredFields()) {
            checks.due(field.getName() + " is private", Modifier.isPrivate(field.getModifiers()), true);
        }
        Constructor<?>[] constructors = JarRiddle.class.getDeclaredConstructors();
        checks.due("the constructors", Arrays.toString(constructors), "[public JarRiddle()]");
        checks.end("FaceTest");
    }

    private static String told(Method method) {
        return method.getReturnType().getSimpleName() + " " + method.getName()
            + "(" + names(method.getParameterTypes()) + ") " + names(method.getExceptionTypes());
    }

    private static String names(Class<?>[] types) {
        StringBuilder names = new StringBuilder();
        for (Class<?> type : types) {
            names.append(names.length() == 0 ? "" : ",").append(type.getSimpleName());
        }
        return names.toString();
    }
}
