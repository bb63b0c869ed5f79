import java.util.List;
import java.util.function.Supplier;

/**
 * Jars at which calls are tried: each make() makes an object of its own, in the same way, with a
 * few calls. The amounts 0 to 9 that cannot be had are written as digits.
 */
record Scene(String name, int jars, String cannotBeHad, Supplier<JarRiddle> recipe) {
    JarRiddle make() {
        return recipe.get();
    }

    boolean canBeHad(int amount) {
        return cannotBeHad.indexOf('0' + amount) < 0;
    }

    static JarRiddle laidOut(int a, int b, int c) {
        JarRiddle riddle = new JarRiddle();
        riddle.layOut(a, b, c);
        return riddle;
    }

    /** Two jars and three; empty, full and between; nothing known, something, and all. */
    static List<Scene> all() {
        return List.of(
            new Scene("a new object", 2, "23456789", JarRiddle::new),
            new Scene("3 and 5, partly filled", 2, "6789", Scene::partlyFilledTwo),
            new Scene("4 and 6, without odd amounts", 2, "135789", Scene::evenTwo),
            new Scene("two full jars of 9", 2, "12345678", Scene::fullTwo),
            new Scene("3 and 5, both known", 2, "6789", Scene::knownTwo),
            new Scene("2 and 1, where there were three", 2, "3456789", Scene::twoBehindThree),
            new Scene("three empty jars of 1", 3, "23456789", () -> laidOut(1, 1, 1)),
            new Scene("3, 5 and 4, partly filled", 3, "6789", Scene::partlyFilledThree),
            new Scene("three full jars of 9", 3, "12345678", Scene::fullThree));
    }

    private static JarRiddle partlyFilledTwo() {
        JarRiddle riddle = laidOut(3, 5, 0);
        riddle.fill(0);
        riddle.empty(0);
        riddle.fill(1);
        riddle.pour(1, 0);
        riddle.guess(0, 4);
        return riddle;
    }

    private static JarRiddle evenTwo() {
        JarRiddle riddle = laidOut(4, 6, 0);
        riddle.fill(0);
        return riddle;
    }

    private static JarRiddle fullTwo() {
        JarRiddle riddle = laidOut(9, 9, 0);
        riddle.fill(0);
        riddle.pour(0, 1);
        riddle.fill(0);
        return riddle;
    }

    private static JarRiddle knownTwo() {
        JarRiddle riddle = laidOut(3, 5, 0);
        riddle.guess(0, 3);
        riddle.guess(1, 5);
        riddle.fill(1);
        return riddle;
    }

    private static JarRiddle twoBehindThree() {
        JarRiddle riddle = laidOut(7, 8, 9);
        riddle.fill(2);
        riddle.pour(2, 0);
        riddle.guess(2, 9);
        riddle.layOut(2, 1, 0);
        riddle.fill(0);
        return riddle;
    }

    private static JarRiddle partlyFilledThree() {
        JarRiddle riddle = laidOut(3, 5, 4);
        riddle.fill(1);
        riddle.empty(1);
        riddle.fill(2);
        riddle.pour(2, 0);
        riddle.guess(0, 3);
        riddle.guess(1, 1);
        return riddle;
    }

    private static JarRiddle fullThree() {
        JarRiddle riddle = laidOut(9, 9, 9);
        riddle.fill(0);
        riddle.fill(1);
        riddle.pour(0, 2);
        riddle.fill(0);
        return riddle;
    }
}
