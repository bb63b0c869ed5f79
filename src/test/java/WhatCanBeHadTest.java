/** Promises 17 to 24: which amounts and states can be had, and in how few acts. */
public final class WhatCanBeHadTest {
    private static final int[] NO_AMOUNT = {-1, 10, Integer.MIN_VALUE, Integer.MAX_VALUE};

    private final Checks checks = new Checks();

    public static void main(String[] args) {
        WhatCanBeHadTest test = new WhatCanBeHadTest();
        test.promise17();
        test.promise18();
        test.promise19();
        test.promise20();
        test.promise21();
        test.promises22To24();
        test.wrongArguments();
        test.checks.end("WhatCanBeHadTest");
    }

    private static JarRiddle laidOut(int a, int b, int c) {
        JarRiddle riddle = new JarRiddle();
        riddle.layOut(a, b, c);
        return riddle;
    }

    private void promise17() {
        JarRiddle riddle = laidOut(3, 5, 0);
        checks.due("17: isThere(0)", riddle.isThere(0), true);
        checks.due("17: isThere(9)", riddle.isThere(9), false);
        riddle.fill(1);
        checks.due("17: isThere(5)", riddle.isThere(5), true);
        checks.due("17: isThere(3)", riddle.isThere(3), false);
        riddle.fill(0);
        checks.due("17: isThere(0) as both are full", riddle.isThere(0), false);
        checks.due("17: isThere(3)", riddle.isThere(3), true);
        JarRiddle three = laidOut(1, 1, 9);
        three.fill(2);
        checks.due("17: isThere(9)", three.isThere(9), true);
    }

    private void promise18() {
        JarRiddle riddle = laidOut(3, 5, 0);
        int[] least = {0, 4, 2, 1, 6, 1, -1, -1, -1, -1};
        for (int amount = 0; amount < least.length; amount++) {
            checks.due("18: leastActs(" + amount + ")", riddle.leastActs(amount), least[amount]);
        }
        riddle.fill(0);
        checks.due("18: leastActs(3)", riddle.leastActs(3), 0);
        checks.due("18: leastActs(0)", riddle.leastActs(0), 0);
        riddle.fill(1);
        checks.due("18: leastActs(0) as both are full", riddle.leastActs(0), 1);
        checks.due("18: leastActs(9)", laidOut(1, 9, 0).leastActs(9), 1);
    }

    private void promise19() {
        JarRiddle riddle = laidOut(3, 5, 0);
        checks.due("19: leastActsIn(0, 0)", riddle.leastActsIn(0, 0), 0);
        checks.due("19: leastActsIn(0, 1)", riddle.leastActsIn(0, 1), 4);
        checks.due("19: leastActsIn(0, 2)", riddle.leastActsIn(0, 2), 4);
        checks.due("19: leastActsIn(1, 2)", riddle.leastActsIn(1, 2), 2);
        checks.due("19: leastActsIn(1, 3)", riddle.leastActsIn(1, 3), 2);
        checks.due("19: leastActsIn(0, 4)", riddle.leastActsIn(0, 4), -1);
        checks.due("19: leastActsIn(1, 4)", riddle.leastActsIn(1, 4), 6);
        checks.due("19: leastActsIn(1, 9)", riddle.leastActsIn(1, 9), -1);
        riddle.fill(0);
        checks.due("19: leastActsIn(0, 3)", riddle.leastActsIn(0, 3), 0);
        checks.due("19: leastActsIn(0, 0)", riddle.leastActsIn(0, 0), 1);
        checks.due("19: leastActsIn(2, 9)", laidOut(1, 1, 9).leastActsIn(2, 9), 1);
    }

    private void promise20() {
        checks.due("20: nextAct(4) of 3, 5", laidOut(3, 5, 0).nextAct(4), 1);
        checks.due("20: nextAct(3) of 3, 5", laidOut(3, 5, 0).nextAct(3), 0);
        checks.due("20: nextAct(4) of 4, 4, 4", laidOut(4, 4, 4).nextAct(4), 0);
        checks.due("20: nextAct(4) of 1, 4, 4", laidOut(1, 4, 4).nextAct(4), 1);
        checks.due("20: nextAct(9) of 1, 4, 9", laidOut(1, 4, 9).nextAct(9), 2);
        JarRiddle full = laidOut(2, 2, 2);
        full.fill(0);
        full.fill(1);
        full.fill(2);
        checks.due("20: nextAct(0) as all are full", full.nextAct(0), 3);
        dueFirstPour(7, 5, 3, 9, 0);
        dueFirstPour(8, 5, 9, 3, 0);
        dueFirstPour(9, 3, 5, 9, 1);
        dueFirstPour(11, 9, 5, 3, 1);
        dueFirstPour(12, 3, 9, 5, 2);
        dueFirstPour(13, 9, 3, 5, 2);
        dueFirstPour(12, 3, 3, 5, 2);
        JarRiddle riddle = laidOut(4, 6, 0);
        checks.dueState("nextAct(0)", riddle, () -> riddle.nextAct(0));
        checks.dueState("nextAct(5)", riddle, () -> riddle.nextAct(5));
        checks.dueState("nextAct(9)", riddle, () -> riddle.nextAct(9));
    }

    /** The jar with 5 is full; 2 are left in it as soon as it is poured into the one with 3. */
    private void dueFirstPour(int act, int a, int b, int c, int jar) {
        JarRiddle riddle = laidOut(a, b, c);
        riddle.fill(jar);
        checks.due("20: nextAct(2)", riddle.nextAct(2), act);
        checks.due("18: leastActs(2)", riddle.leastActs(2), 1);
    }

    private void promise21() {
        checks.due("21: amountsToHave() of 1, 1", new JarRiddle().amountsToHave(), 2);
        checks.due("21: amountsToHave() of 3, 5", laidOut(3, 5, 0).amountsToHave(), 6);
        checks.due("21: amountsToHave() of 6, 9", laidOut(6, 9, 0).amountsToHave(), 4);
        checks.due("21: amountsToHave() of 9, 8, 7", laidOut(9, 8, 7).amountsToHave(), 10);
        JarRiddle riddle = laidOut(4, 6, 9);
        riddle.fill(2);
        checks.due("21: amountsToHave() of 4, 6, 9", riddle.amountsToHave(), 10);
    }

    private void promises22To24() {
        JarRiddle ones = new JarRiddle();
        checks.due("22: statesToReach() of 1, 1", ones.statesToReach(), 4);
        checks.due("24: farthest() of 1, 1", ones.farthest(), 2);
        JarRiddle riddle = laidOut(3, 5, 0);
        checks.due("22: statesToReach() of 3, 5", riddle.statesToReach(), 16);
        checks.due("24: farthest() of 3, 5", riddle.farthest(), 7);
        int[] away = {1, 2, 3, 2, 2, 2, 2, 2, 0};
        for (int acts = 0; acts < away.length; acts++) {
            checks.due("23: statesAway(" + acts + ")", riddle.statesAway(acts), away[acts]);
        }
        checks.due("23: statesAway(50)", riddle.statesAway(50), 0);
        riddle.fill(1);
        riddle.pour(1, 0);
        checks.due("22: statesToReach() behind acts", riddle.statesToReach(), 16);
        checks.due("23: statesAway(0) behind acts", riddle.statesAway(0), 1);
        checks.due("23: statesAway(1) behind acts", riddle.statesAway(1), 4);
        JarRiddle three = laidOut(4, 4, 4);
        checks.due("22: statesToReach() of 4, 4, 4", three.statesToReach(), 8);
        checks.due("23: statesAway(1) of 4, 4, 4", three.statesAway(1), 3);
        checks.due("24: farthest() of 4, 4, 4", three.farthest(), 3);
        three.fill(0);
        checks.due("23: statesAway(1) as one is full", three.statesAway(1), 5);
        checks.due("24: farthest() as one is full", three.farthest(), 2);
    }

    private void wrongArguments() {
        JarRiddle riddle = laidOut(3, 5, 0);
        riddle.fill(0);
        for (int wrong : NO_AMOUNT) {
            checks.dueArgument("isThere(" + wrong + ")", riddle, () -> riddle.isThere(wrong));
            checks.dueArgument("leastActs(" + wrong + ")", riddle, () -> riddle.leastActs(wrong));
            checks.dueArgument("nextAct(" + wrong + ")", riddle, () -> riddle.nextAct(wrong));
            checks.dueArgument("leastActsIn(1, " + wrong + ")", riddle, () -> riddle.leastActsIn(1, wrong));
        }
        int[] noJars = {-1, 2, 3, Integer.MIN_VALUE, Integer.MAX_VALUE};
        for (int wrong : noJars) {
            checks.dueIndex("leastActsIn(" + wrong + ", 0)", riddle, () -> riddle.leastActsIn(wrong, 0));
            checks.dueIndex("leastActsIn(" + wrong + ", 10)", riddle, () -> riddle.leastActsIn(wrong, 10));
        }
        JarRiddle three = laidOut(3, 5, 1);
        checks.dueIndex("leastActsIn(3, 0)", three, () -> three.leastActsIn(3, 0));
        int[] noActs = {-1, 51, Integer.MIN_VALUE, Integer.MAX_VALUE};
        for (int wrong : noActs) {
            checks.dueArgument("statesAway(" + wrong + ")", riddle, () -> riddle.statesAway(wrong));
        }
    }
}
