/** Promises 7 to 16: what the jars are and hold, and what was moved. What is refused: RefusedCallsTest. */
public final class WhatJarsAreTest {
    private final Checks checks = new Checks();

    public static void main(String[] args) {
        WhatJarsAreTest test = new WhatJarsAreTest();
        test.promises7To11();
        test.promise7();
        test.promises8To11OfAllVolumes();
        test.promises12To16();
        test.promises12To16AtMost();
        test.promises13To16OfFollow();
        test.promise13CountsActsAlone();
        test.lastCalls();
        test.checks.end("WhatJarsAreTest");
    }

    private void dueJar(JarRiddle riddle, int jar, int volume, int amount) {
        checks.due("8: volumeOf(" + jar + ")", riddle.volumeOf(jar), volume);
        checks.due("9: amountOf(" + jar + ")", riddle.amountOf(jar), amount);
        checks.due("10: isEmpty(" + jar + ")", riddle.isEmpty(jar), amount == 0);
        checks.due("11: isFull(" + jar + ")", riddle.isFull(jar), amount == volume);
    }

    private void promises7To11() {
        JarRiddle riddle = Scene.laidOut(3, 5, 1);
        riddle.fill(1);
        dueJar(riddle, 1, 5, 5);
        riddle.pour(1, 0);
        dueJar(riddle, 0, 3, 3);
        dueJar(riddle, 1, 5, 2);
        riddle.pour(1, 2);
        dueJar(riddle, 1, 5, 1);
        dueJar(riddle, 2, 1, 1);
        riddle.pour(2, 1);
        dueJar(riddle, 1, 5, 2);
        dueJar(riddle, 2, 1, 0);
    }

    private void promise7() {
        JarRiddle riddle = new JarRiddle();
        checks.due("7: jars() of a new object", riddle.jars(), 2);
        riddle.layOut(7, 8, 1);
        checks.due("7: jars() as c is 1", riddle.jars(), 3);
        riddle.layOut(7, 8, 0);
        checks.due("7: jars() as c is 0", riddle.jars(), 2);
        riddle.layOut(7, 8, 9);
        checks.due("7: jars() as c is 9", riddle.jars(), 3);
    }

    /** Each volume, 1 to 9, and each amount, 0 to the volume, in each of three jars. */
    private void promises8To11OfAllVolumes() {
        for (int volume = 1; volume <= 9; volume++) {
            for (int jar = 0; jar < 3; jar++) {
                int one = (jar + 1) % 3;
                int third = 3 - jar - one;
                int[] volumes = {1, 1, 1};
                volumes[jar] = volume;
                JarRiddle riddle = Scene.laidOut(volumes[0], volumes[1], volumes[2]);
                dueJar(riddle, jar, volume, 0);
                for (int amount = 1; amount <= volume; amount++) {
                    riddle.fill(one);
                    riddle.pour(one, jar);
                    dueJar(riddle, jar, volume, amount);
                    dueJar(riddle, one, 1, 0);
                    dueJar(riddle, third, 1, 0);
                }
            }
        }
    }

    private void dueSums(JarRiddle riddle, int held, int acts, int poured, int spilled, int taken) {
        checks.due("12: heldInAll()", riddle.heldInAll(), held);
        checks.due("13: acts()", riddle.acts(), acts);
        checks.due("14: pouredInAll()", riddle.pouredInAll(), poured);
        checks.due("15: spilledInAll()", riddle.spilledInAll(), spilled);
        checks.due("16: takenInAll()", riddle.takenInAll(), taken);
    }

    private void promises12To16() {
        JarRiddle riddle = Scene.laidOut(2, 7, 4);
        dueSums(riddle, 0, 0, 0, 0, 0);
        riddle.fill(1);
        dueSums(riddle, 7, 1, 0, 0, 7);
        riddle.pour(1, 2);
        dueSums(riddle, 7, 2, 4, 0, 7);
        riddle.pour(2, 0);
        dueSums(riddle, 7, 3, 6, 0, 7);
        riddle.fill(2);
        dueSums(riddle, 9, 4, 6, 0, 9);
        riddle.empty(0);
        dueSums(riddle, 7, 5, 6, 2, 9);
        riddle.empty(0);
        dueSums(riddle, 7, 6, 6, 2, 9);
        riddle.empty(1);
        dueSums(riddle, 4, 7, 6, 5, 9);
        riddle.pour(1, 0);
        dueSums(riddle, 4, 8, 6, 5, 9);
        riddle.fill(2);
        dueSums(riddle, 4, 9, 6, 5, 9);
    }

    /** The most that jars can hold, two and three of them, and the least that they hold if full. */
    private void promises12To16AtMost() {
        JarRiddle riddle = Scene.laidOut(9, 9, 9);
        riddle.fill(0);
        riddle.fill(1);
        dueSums(riddle, 18, 2, 0, 0, 18);
        riddle.fill(2);
        dueSums(riddle, 27, 3, 0, 0, 27);
        JarRiddle two = Scene.laidOut(9, 9, 0);
        two.fill(0);
        two.fill(1);
        dueSums(two, 18, 2, 0, 0, 18);
        JarRiddle ones = new JarRiddle();
        ones.fill(1);
        dueSums(ones, 1, 1, 0, 0, 1);
        ones.pour(1, 0);
        dueSums(ones, 1, 2, 1, 0, 1);
        ones.empty(0);
        dueSums(ones, 0, 3, 1, 1, 1);
    }

    private void promises13To16OfFollow() {
        JarRiddle riddle = Scene.laidOut(3, 5, 0);
        riddle.follow(4, 50);
        dueSums(riddle, 7, 6, 6, 3, 10);
        riddle.follow(4, 50);
        dueSums(riddle, 7, 6, 6, 3, 10);
    }

    private void promise13CountsActsAlone() {
        JarRiddle riddle = Scene.laidOut(3, 5, 0);
        riddle.guess(0, 3);
        riddle.guess(1, 9);
        riddle.leftAtMost(0, 1);
        riddle.bestPour();
        dueSums(riddle, 0, 0, 0, 0, 0);
    }

    /** The document promises 512 calls, the last one as well as the first. */
    private void lastCalls() {
        JarRiddle riddle = Scene.laidOut(9, 9, 9);
        for (int i = 0; i < 127; i++) {
            riddle.fill(0);
            riddle.pour(0, 2);
            riddle.empty(2);
            riddle.pour(2, 1);
        }
        riddle.fill(1);
        checks.due("16: takenInAll() as the call 511", riddle.takenInAll(), 9 * 128);
        checks.due("13: acts() as the call 512", riddle.acts(), 509);
    }
}
