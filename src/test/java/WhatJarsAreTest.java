/** Promises 7 to 16: what the jars are and hold, and what was moved. */
public final class WhatJarsAreTest {
    private static final int[] NO_JAR_OF_TWO = {-1, 2, 3, Integer.MIN_VALUE, Integer.MAX_VALUE};
    private static final int[] NO_JAR_OF_THREE = {-1, 3, Integer.MIN_VALUE, Integer.MAX_VALUE};

    private final Checks checks = new Checks();

    public static void main(String[] args) {
        WhatJarsAreTest test = new WhatJarsAreTest();
        test.promises7To11();
        test.wrongJars(new JarRiddle(), NO_JAR_OF_TWO);
        JarRiddle three = new JarRiddle();
        three.layOut(2, 4, 6);
        test.wrongJars(three, NO_JAR_OF_THREE);
        test.promises12To16();
        test.checks.end("WhatJarsAreTest");
    }

    private void dueJar(JarRiddle riddle, int jar, int volume, int amount) {
        checks.due("8: volumeOf(" + jar + ")", riddle.volumeOf(jar), volume);
        checks.due("9: amountOf(" + jar + ")", riddle.amountOf(jar), amount);
        checks.due("10: isEmpty(" + jar + ")", riddle.isEmpty(jar), amount == 0);
        checks.due("11: isFull(" + jar + ")", riddle.isFull(jar), amount == volume);
    }

    private void promises7To11() {
        JarRiddle riddle = new JarRiddle();
        checks.due("7: jars()", riddle.jars(), 2);
        dueJar(riddle, 0, 1, 0);
        dueJar(riddle, 1, 1, 0);
        riddle.layOut(3, 5, 1);
        checks.due("7: jars()", riddle.jars(), 3);
        riddle.fill(1);
        dueJar(riddle, 1, 5, 5);
        riddle.pour(1, 0);
        dueJar(riddle, 0, 3, 3);
        dueJar(riddle, 1, 5, 2);
        riddle.pour(1, 2);
        dueJar(riddle, 1, 5, 1);
        dueJar(riddle, 2, 1, 1);
        riddle.pour(2, 1);
        dueJar(riddle, 1, 5, 2);
        dueJar(riddle, 2, 1, 0);
        riddle.layOut(7, 8, 0);
        checks.due("7: jars()", riddle.jars(), 2);
    }

    private void wrongJars(JarRiddle riddle, int[] noJars) {
        for (int wrong : noJars) {
            checks.dueIndex("volumeOf(" + wrong + ")", riddle, () -> riddle.volumeOf(wrong));
            checks.dueIndex("amountOf(" + wrong + ")", riddle, () -> riddle.amountOf(wrong));
            checks.dueIndex("isEmpty(" + wrong + ")", riddle, () -> riddle.isEmpty(wrong));
            checks.dueIndex("isFull(" + wrong + ")", riddle, () -> riddle.isFull(wrong));
        }
    }

    private void dueSums(JarRiddle riddle, int held, int acts, int poured, int spilled, int taken) {
        checks.due("12: heldInAll()", riddle.heldInAll(), held);
        checks.due("13: acts()", riddle.acts(), acts);
        checks.due("14: pouredInAll()", riddle.pouredInAll(), poured);
        checks.due("15: spilledInAll()", riddle.spilledInAll(), spilled);
        checks.due("16: takenInAll()", riddle.takenInAll(), taken);
    }

    private void promises12To16() {
        JarRiddle riddle = new JarRiddle();
        riddle.layOut(2, 7, 4);
        dueSums(riddle, 0, 0, 0, 0, 0);
        riddle.fill(1);
        dueSums(riddle, 7, 1, 0, 0, 7);
        riddle.pour(1, 2);
        dueSums(riddle, 7, 2, 4, 0, 7);
        riddle.pour(2, 0);
        dueSums(riddle, 7, 3, 6, 0, 7);
        riddle.fill(2);
        dueSums(riddle, 9, 4, 6, 0, 9);
        riddle.empty(0);
        dueSums(riddle, 7, 5, 6, 2, 9);
        riddle.empty(0);
        dueSums(riddle, 7, 6, 6, 2, 9);
        riddle.empty(1);
        dueSums(riddle, 4, 7, 6, 5, 9);
        riddle.pour(1, 0);
        dueSums(riddle, 4, 8, 6, 5, 9);
    }
}
