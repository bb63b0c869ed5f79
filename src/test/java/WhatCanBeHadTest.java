/**
 * Promises 17 to 24: which amounts and states can be had, and in how few acts. What is refused:
 * RefusedCallsTest.
 */
public final class WhatCanBeHadTest {
    private final Checks checks = new Checks();

    public static void main(String[] args) {
        WhatCanBeHadTest test = new WhatCanBeHadTest();
        test.promise17();
        test.promise18();
        test.promise18WhereNoJar2Is();
        test.promise19();
        test.promise19OfThree();
        test.promise20();
        test.promise20TellsEachAct();
        test.promise20TellsTheSmallest();
        test.promise21();
        test.promises22To24();
        test.promises22To24OfThree();
        test.promises22To24AddUp();
        test.checks.end("WhatCanBeHadTest");
    }

    private static JarRiddle behind(JarRiddle riddle, int... acts) {
        for (int act : acts) {
            if (act < 3) {
                riddle.fill(act);
            } else if (act < 6) {
                riddle.empty(act - 3);
            } else {
                riddle.pour((act - 6) / 3, (act - 6) % 3);
            }
        }
        return riddle;
    }

    private static JarRiddle threeAndFive(int... acts) {
        return behind(Scene.laidOut(3, 5, 0), acts);
    }

    /** Just these of the amounts 0 to 9 are there, written as digits. */
    private void dueThere(String when, JarRiddle riddle, String there) {
        for (int amount = 0; amount <= 9; amount++) {
            boolean due = there.indexOf('0' + amount) >= 0;
            checks.due("17: isThere(" + amount + ") of " + when, riddle.isThere(amount), due);
        }
    }

    private void promise17() {
        dueThere("two empty jars", threeAndFive(), "0");
        dueThere("an empty one and a full one", threeAndFive(1), "05");
        dueThere("a full one and a part", threeAndFive(1, 9), "23");
        dueThere("two full ones, where no jar 2 is empty", threeAndFive(0, 1), "35");
        dueThere("a new object", new JarRiddle(), "0");
        dueThere("ones", behind(new JarRiddle(), 0, 1), "1");
        dueThere("the greatest amount", behind(Scene.laidOut(9, 9, 0), 0, 1), "9");
        dueThere("the jar 2 alone", behind(Scene.laidOut(1, 1, 9), 0, 1, 2), "19");
        dueThere("the jar 2 behind a pour", behind(Scene.laidOut(2, 3, 9), 2, 12, 13), "234");
        dueThere("the jar 2 laid away", layOutAgain(behind(Scene.laidOut(1, 1, 9), 2)), "0");
    }

    private static JarRiddle layOutAgain(JarRiddle riddle) {
        riddle.layOut(1, 1, 0);
        return riddle;
    }

    /** The due answers for the amounts 0 to 9. */
    private void dueLeast(String when, JarRiddle riddle, int... due) {
        for (int amount = 0; amount <= 9; amount++) {
            checks.due("18: leastActs(" + amount + ") of " + when, riddle.leastActs(amount), due[amount]);
        }
    }

    private void promise18() {
        dueLeast("3 and 5, empty", threeAndFive(), 0, 4, 2, 1, 6, 1, -1, -1, -1, -1);
        dueLeast("3 and 5 behind fill(0)", threeAndFive(0), 0, 3, 3, 0, 7, 1, -1, -1, -1, -1);
        dueLeast("3 and 5 with 2 and 3", behind(Scene.laidOut(5, 3, 0), 0, 7), 1, 4, 0, 0, 4, 1, -1, -1, -1, -1);
        dueLeast("1 and 1", new JarRiddle(), 0, 1, -1, -1, -1, -1, -1, -1, -1, -1);
        dueLeast("4 and 6", Scene.laidOut(4, 6, 0), 0, -1, 2, -1, 1, -1, 1, -1, -1, -1);
        dueLeast("1 and 9", Scene.laidOut(1, 9, 0), 0, 1, 4, 6, 8, 8, 6, 4, 2, 1);
        dueLeast("1, 1 and 9", Scene.laidOut(1, 1, 9), 0, 1, 4, 6, 8, 7, 5, 3, 2, 1);
        checks.due("18: leastActs(8) of 7 and 9, a long way", Scene.laidOut(7, 9, 0).leastActs(8), 14);
    }

    /** A jar that is not there holds nothing, not even 0. */
    private void promise18WhereNoJar2Is() {
        checks.due("18: leastActs(0) as both are full", threeAndFive(0, 1).leastActs(0), 1);
        checks.due("20: nextAct(0) as both are full", threeAndFive(0, 1).nextAct(0), 3);
        checks.due("18: leastActs(0) as three are full", behind(Scene.laidOut(1, 2, 3), 0, 1, 2).leastActs(0), 1);
    }

    private void dueLeastIn(String when, JarRiddle riddle, int jar, int... due) {
        for (int amount = 0; amount <= 9; amount++) {
            String call = "19: leastActsIn(" + jar + ", " + amount + ") of " + when;
            checks.due(call, riddle.leastActsIn(jar, amount), due[amount]);
        }
    }

    /** What one jar holds now, or can, need not be there, or possible, in another one. */
    private void promise19() {
        dueLeastIn("3 and 5, empty", threeAndFive(), 0, 0, 4, 4, 1, -1, -1, -1, -1, -1, -1);
        dueLeastIn("3 and 5, empty", threeAndFive(), 1, 0, 6, 2, 2, 6, 1, -1, -1, -1, -1);
        dueLeastIn("3 and 5 behind fill(0)", threeAndFive(0), 0, 1, 3, 5, 0, -1, -1, -1, -1, -1, -1);
        dueLeastIn("3 and 5 behind fill(0)", threeAndFive(0), 1, 0, 5, 3, 1, 7, 1, -1, -1, -1, -1);
        dueLeastIn("1 and 1", new JarRiddle(), 1, 0, 1, -1, -1, -1, -1, -1, -1, -1, -1);
    }

    private void promise19OfThree() {
        JarRiddle riddle = behind(Scene.laidOut(1, 1, 9), 2);
        dueLeastIn("1, 1 and 9 behind fill(2)", riddle, 0, 0, 1, -1, -1, -1, -1, -1, -1, -1, -1);
        dueLeastIn("1, 1 and 9 behind fill(2)", riddle, 2, 1, 3, 5, 7, 8, 6, 4, 2, 1, 0);
        JarRiddle full = behind(Scene.laidOut(9, 9, 9), 0, 1, 2);
        for (int jar = 0; jar < 3; jar++) {
            dueLeastIn("9, 9 and 9, full", full, jar, 1, -1, -1, -1, -1, -1, -1, -1, -1, 0);
        }
    }

    private void dueNext(JarRiddle riddle, int amount, int act, int least) {
        checks.due("20: nextAct(" + amount + ")", riddle.nextAct(amount), act);
        checks.due("18: leastActs(" + amount + ")", riddle.leastActs(amount), least);
        behind(riddle, act);
        checks.due("18: leastActs(" + amount + ") behind that act", riddle.leastActs(amount), least - 1);
    }

    private void promise20() {
        dueNext(Scene.laidOut(3, 5, 0), 4, 1, 6);
        dueNext(Scene.laidOut(3, 5, 0), 3, 0, 1);
        dueNext(Scene.laidOut(3, 9, 0), 9, 1, 1);
        dueNext(threeAndFive(0, 1), 0, 3, 1);
    }

    /** Each of the twelve acts, by its number. */
    private void promise20TellsEachAct() {
        dueNext(Scene.laidOut(5, 4, 3), 5, 0, 1);
        dueNext(Scene.laidOut(4, 5, 3), 5, 1, 1);
        dueNext(Scene.laidOut(4, 3, 5), 5, 2, 1);
        dueNext(behind(Scene.laidOut(2, 2, 2), 0, 1, 2), 0, 3, 1);
        dueNext(behind(Scene.laidOut(5, 3, 0), 0, 7), 4, 4, 4);
        dueNext(behind(Scene.laidOut(1, 7, 2), 1, 11), 3, 5, 2);
        dueFirstPour(7, 5, 3, 9, 0);
        dueFirstPour(8, 5, 9, 3, 0);
        dueFirstPour(9, 3, 5, 9, 1);
        dueFirstPour(11, 9, 5, 3, 1);
        dueFirstPour(12, 3, 9, 5, 2);
        dueFirstPour(13, 9, 3, 5, 2);
    }

    /** The jar with 5 is full; 2 are left in it as soon as it is poured into the one with 3. */
    private void dueFirstPour(int act, int a, int b, int c, int jar) {
        dueNext(behind(Scene.laidOut(a, b, c), jar), 2, act, 1);
    }

    private void promise20TellsTheSmallest() {
        // Each of several jars can be filled, or emptied, or poured from, or poured into.
        dueNext(Scene.laidOut(4, 4, 4), 4, 0, 1);
        dueNext(Scene.laidOut(1, 4, 4), 4, 1, 1);
        dueNext(behind(Scene.laidOut(2, 2, 2), 0, 1, 2), 0, 3, 1);
        dueNext(behind(Scene.laidOut(3, 3, 5), 2), 2, 12, 1);
        dueNext(behind(Scene.laidOut(5, 3, 3), 0), 2, 7, 1);
        // With 2 and 5 in jars of 3 and 5, fill(0) and pour(1, 0) both lead to 3.
        dueNext(threeAndFive(1, 9, 3, 9, 1), 3, 0, 1);
        // With 3 and 1, empty(0) and pour(0, 1) both lead to 0.
        dueNext(threeAndFive(0, 7, 0, 7, 4, 7, 0), 0, 3, 1);
        // There, 2 is had by fill(1), empty(0) and pour(1, 0), and by the first two in either order.
        dueNext(threeAndFive(0, 7, 0, 7, 4, 7, 0), 2, 1, 3);
    }

    private void promise21() {
        checks.due("21: amountsToHave() of 1, 1", new JarRiddle().amountsToHave(), 2);
        checks.due("21: amountsToHave() of 9, 9", Scene.laidOut(9, 9, 0).amountsToHave(), 2);
        checks.due("21: amountsToHave() of 3, 5", Scene.laidOut(3, 5, 0).amountsToHave(), 6);
        checks.due("21: amountsToHave() of 6, 9", Scene.laidOut(6, 9, 0).amountsToHave(), 4);
        checks.due("21: amountsToHave() of 1, 9", Scene.laidOut(1, 9, 0).amountsToHave(), 10);
        checks.due("21: amountsToHave() of 9, 8, 7", Scene.laidOut(9, 8, 7).amountsToHave(), 10);
        checks.due("21: amountsToHave() of 1, 1, 9", Scene.laidOut(1, 1, 9).amountsToHave(), 10);
        checks.due("21: amountsToHave() of 3, 6, 9", Scene.laidOut(3, 6, 9).amountsToHave(), 4);
        checks.due("21: amountsToHave(), now or later", threeAndFive(1, 9).amountsToHave(), 6);
        checks.due("21: amountsToHave() as 0 is not there", threeAndFive(0, 1).amountsToHave(), 6);
    }

    private void dueStates(String when, JarRiddle riddle, int... away) {
        int inAll = 0;
        for (int acts = 0; acts <= 50; acts++) {
            int due = acts < away.length ? away[acts] : 0;
            checks.due("23: statesAway(" + acts + ") of " + when, riddle.statesAway(acts), due);
            inAll += due;
        }
        checks.due("22: statesToReach() of " + when, riddle.statesToReach(), inAll);
        checks.due("24: farthest() of " + when, riddle.farthest(), away.length - 1);
    }

    private void promises22To24() {
        dueStates("1 and 1", new JarRiddle(), 1, 2, 1);
        dueStates("1 and 1, both full", behind(new JarRiddle(), 0, 1), 1, 2, 1);
        dueStates("1 and 1, one full", behind(new JarRiddle(), 0), 1, 3);
        dueStates("3 and 5", threeAndFive(), 1, 2, 3, 2, 2, 2, 2, 2);
        dueStates("3 and 5 with 3 and 2", threeAndFive(1, 9), 1, 4, 3, 2, 2, 2, 2);
        dueStates("9 and 9", Scene.laidOut(9, 9, 0), 1, 2, 1);
    }

    private void promises22To24OfThree() {
        dueStates("1, 1 and 1", Scene.laidOut(1, 1, 1), 1, 3, 3, 1);
        dueStates("4, 4 and 4", Scene.laidOut(4, 4, 4), 1, 3, 3, 1);
        dueStates("4, 4 and 4, one full", behind(Scene.laidOut(4, 4, 4), 0), 1, 5, 2);
        dueStates("9, 9 and 9, all full", behind(Scene.laidOut(9, 9, 9), 0, 1, 2), 1, 3, 3, 1);
    }

    /** Each state is just so far away as it is: itself 0 acts, the farthest ones farthest(). */
    private void promises22To24AddUp() {
        for (Scene scene : Scene.all()) {
            JarRiddle riddle = scene.make();
            int inAll = 0;
            int last = 0;
            for (int acts = 0; acts <= 50; acts++) {
                int away = riddle.statesAway(acts);
                inAll += away;
                last = away > 0 ? acts : last;
            }
            checks.due("23: statesAway(0) of " + scene.name(), riddle.statesAway(0), 1);
            checks.due("22: statesToReach() of " + scene.name(), riddle.statesToReach(), inAll);
            checks.due("24: farthest() of " + scene.name(), riddle.farthest(), last);
        }
    }
}
