/** Promises 25 to 34: what the guesser knows, the mean and the checksum. */
public final class GuesserTest {
    private static final int[] NO_JAR_OF_TWO = {-1, 2, 3, Integer.MIN_VALUE, Integer.MAX_VALUE};
    private static final int[] NO_VOLUME = {0, -1, 10, Integer.MIN_VALUE, Integer.MAX_VALUE};

    private final Checks checks = new Checks();

    public static void main(String[] args) {
        GuesserTest test = new GuesserTest();
        test.promise25();
        test.promise26();
        test.promise27();
        test.promises28To30();
        test.promise31();
        test.promise32();
        test.promise33();
        test.promise34();
        test.wrongArguments();
        test.checks.end("GuesserTest");
    }

    private static JarRiddle laidOut(int a, int b, int c) {
        JarRiddle riddle = new JarRiddle();
        riddle.layOut(a, b, c);
        return riddle;
    }

    private void promise25() {
        JarRiddle riddle = laidOut(3, 5, 0);
        checks.due("25: candidates() of two jars", riddle.candidates(), 81);
        riddle.fill(1);
        riddle.empty(0);
        checks.due("25: candidates() where nothing is told", riddle.candidates(), 81);
        riddle.pour(1, 0);
        checks.due("25: candidates() as b > a", riddle.candidates(), 36);
        riddle.empty(0);
        riddle.pour(1, 0);
        checks.due("25: candidates() as b < 2 * a", riddle.candidates(), 16);
        JarRiddle same = laidOut(4, 4, 0);
        same.fill(1);
        same.pour(1, 0);
        checks.due("25: candidates() as a == b", same.candidates(), 9);
        JarRiddle three = laidOut(3, 5, 4);
        checks.due("25: candidates() of three jars", three.candidates(), 729);
        three.fill(2);
        three.pour(2, 0);
        checks.due("25: candidates() as c > a", three.candidates(), 324);
    }

    private void promise26() {
        JarRiddle riddle = laidOut(3, 5, 0);
        for (int volume = 1; volume <= 9; volume++) {
            checks.due("26: mayBe(0, " + volume + ")", riddle.mayBe(0, volume), true);
            checks.due("26: mayBe(1, " + volume + ")", riddle.mayBe(1, volume), true);
        }
        riddle.fill(1);
        riddle.pour(1, 0);
        for (int volume = 1; volume <= 9; volume++) {
            checks.due("26: mayBe(0, " + volume + ") as b > a", riddle.mayBe(0, volume), volume <= 8);
            checks.due("26: mayBe(1, " + volume + ") as b > a", riddle.mayBe(1, volume), volume >= 2);
        }
        JarRiddle three = laidOut(2, 2, 1);
        three.fill(2);
        three.pour(2, 1);
        checks.due("26: mayBe(2, 9) as c < b", three.mayBe(2, 9), false);
        checks.due("26: mayBe(2, 8) as c < b", three.mayBe(2, 8), true);
        checks.due("26: mayBe(0, 9) as c < b", three.mayBe(0, 9), true);
    }

    private void promise27() {
        JarRiddle riddle = laidOut(9, 8, 0);
        checks.due("27: isKnown(0)", riddle.isKnown(0), false);
        riddle.fill(0);
        riddle.pour(0, 1);
        checks.due("27: isKnown(1) as a > b", riddle.isKnown(1), false);
        riddle.guess(1, 8);
        checks.due("27: isKnown(1) as it is guessed", riddle.isKnown(1), true);
        checks.due("27: isKnown(0) as it is greater", riddle.isKnown(0), true);
        checks.due("27: candidates()", riddle.candidates(), 1);
        JarRiddle three = laidOut(1, 2, 3);
        three.guess(2, 3);
        checks.due("27: isKnown(2)", three.isKnown(2), true);
        checks.due("27: isKnown(1)", three.isKnown(1), false);
    }

    private void promises28To30() {
        JarRiddle riddle = laidOut(3, 5, 0);
        checks.due("28: guess(0, 9)", riddle.guess(0, 9), false);
        checks.due("28: candidates() without 9", riddle.candidates(), 72);
        checks.due("29: guesses()", riddle.guesses(), 1);
        checks.due("30: wrongGuesses()", riddle.wrongGuesses(), 1);
        checks.dueState("guess(0, 9) again", riddle, () -> riddle.guess(0, 9));
        checks.due("28: guess(0, 3)", riddle.guess(0, 3), true);
        checks.due("28: candidates() with 3", riddle.candidates(), 9);
        checks.due("28: guess(0, 3) again", riddle.guess(0, 3), true);
        checks.due("28: candidates() as before", riddle.candidates(), 9);
        checks.dueState("guess(0, 4) as it is known", riddle, () -> riddle.guess(0, 4));
        checks.due("28: guess(1, 1)", riddle.guess(1, 1), false);
        checks.due("28: candidates()", riddle.candidates(), 8);
        checks.due("29: guesses()", riddle.guesses(), 4);
        checks.due("30: wrongGuesses()", riddle.wrongGuesses(), 2);
        checks.due("28: acts() of guesses", riddle.acts(), 0);
        riddle.fill(1);
        riddle.pour(1, 0);
        checks.due("28: candidates() as b > 3", riddle.candidates(), 6);
    }

    private void promise31() {
        JarRiddle riddle = laidOut(3, 5, 0);
        checks.due("31: leftAtMost(0, 1) of empty jars", riddle.leftAtMost(0, 1), 81);
        riddle.fill(1);
        checks.due("31: leftAtMost(1, 0)", riddle.leftAtMost(1, 0), 36);
        checks.due("31: leftAtMost(0, 1)", riddle.leftAtMost(0, 1), 81);
        riddle.guess(1, 5);
        checks.due("31: leftAtMost(1, 0) as b is 5", riddle.leftAtMost(1, 0), 4);
        checks.due("31: acts() as before", riddle.acts(), 1);
        checks.due("31: candidates() as before", riddle.candidates(), 9);
        checks.due("31: amountOf(1) as before", riddle.amountOf(1), 5);
        JarRiddle three = laidOut(3, 5, 4);
        three.fill(2);
        checks.due("31: leftAtMost(2, 1)", three.leftAtMost(2, 1), 324);
        checks.due("31: leftAtMost(1, 0)", three.leftAtMost(1, 0), 729);
    }

    private void promise32() {
        checks.due("32: bestPour() of empty jars", new JarRiddle().bestPour(), -1);
        dueBestPour(7, 3, 5, 0, 0);
        dueBestPour(9, 3, 5, 0, 1);
        dueBestPour(7, 3, 5, 4, 0);
        dueBestPour(9, 3, 5, 4, 1);
        dueBestPour(12, 3, 5, 4, 2);
        JarRiddle riddle = laidOut(3, 5, 4);
        riddle.fill(2);
        riddle.pour(2, 0);
        riddle.guess(0, 3);
        checks.due("32: bestPour(), 13 leaves 33 and 7 leaves 36", riddle.bestPour(), 13);
        checks.due("31: leftAtMost(2, 1)", riddle.leftAtMost(2, 1), 33);
        checks.due("31: leftAtMost(0, 1)", riddle.leftAtMost(0, 1), 36);
        riddle.guess(1, 5);
        checks.due("32: bestPour() as a = 3 and b = 5", riddle.bestPour(), 13);
        checks.due("32: candidates() as before", riddle.candidates(), 6);
        checks.due("32: acts() as before", riddle.acts(), 2);
        riddle.guess(2, 4);
        checks.due("32: bestPour() as all is known", riddle.bestPour(), -1);
    }

    private void dueBestPour(int act, int a, int b, int c, int jar) {
        JarRiddle riddle = laidOut(a, b, c);
        riddle.fill(jar);
        checks.due("32: bestPour() as the jar " + jar + " is full", riddle.bestPour(), act);
    }

    private void promise33() {
        JarRiddle riddle = new JarRiddle();
        checks.due("33: meanAmount() of nothing", riddle.meanAmount(), 0.0);
        riddle.fill(0);
        checks.due("33: meanAmount()", riddle.meanAmount(), 0.5);
        riddle.layOut(1, 3, 4);
        riddle.fill(2);
        checks.due("33: meanAmount() of three jars", riddle.meanAmount(), 4.0 / 3);
        riddle.fill(1);
        checks.due("33: meanAmount() of three jars", riddle.meanAmount(), 7.0 / 3);
    }

    private void promise34() {
        JarRiddle riddle = new JarRiddle();
        checks.due("34: digest()", riddle.digest(), digestOf(riddle));
        riddle.layOut(7, 3, 5);
        riddle.fill(0);
        riddle.pour(0, 1);
        riddle.empty(0);
        riddle.fill(0);
        riddle.pour(0, 2);
        checks.due("34: digest()", riddle.digest(), digestOf(riddle));
        riddle.guess(1, 3);
        riddle.guess(2, 4);
        checks.due("34: digest()", riddle.digest(), digestOf(riddle));
        JarRiddle known = laidOut(3, 5, 0);
        known.fill(1);
        known.pour(1, 0);
        known.empty(0);
        known.pour(1, 0);
        known.fill(1);
        known.pour(1, 0);
        known.guess(0, 3);
        checks.due("34: digest()", known.digest(), 9000258852384275131L);
    }

    private static long digestOf(JarRiddle riddle) {
        long[] firstOnes = {riddle.jars(), riddle.heldInAll(), riddle.acts(), riddle.pouredInAll(),
            riddle.spilledInAll(), riddle.takenInAll(), riddle.candidates(), riddle.guesses(),
            riddle.wrongGuesses(), riddle.amountsToHave(), riddle.statesToReach(), riddle.farthest()};
        long d = 1877;
        for (long x : firstOnes) {
            d = d * 31 + x;
        }
        for (int jar = 0; jar < riddle.jars(); jar++) {
            d = d * 31 + riddle.volumeOf(jar);
            d = d * 31 + riddle.amountOf(jar);
            d = d * 31 + (riddle.isEmpty(jar) ? 1 : 0);
            d = d * 31 + (riddle.isFull(jar) ? 1 : 0);
            d = d * 31 + (riddle.isKnown(jar) ? 1 : 0);
            for (int volume = 1; volume <= 9; volume++) {
                d = d * 31 + (riddle.mayBe(jar, volume) ? 1 : 0);
            }
        }
        for (int amount = 0; amount <= 9; amount++) {
            d = d * 31 + riddle.leastActs(amount);
        }
        return d;
    }

    private void wrongArguments() {
        JarRiddle riddle = laidOut(3, 5, 0);
        riddle.fill(1);
        for (int wrong : NO_JAR_OF_TWO) {
            checks.dueIndex("mayBe(" + wrong + ", 1)", riddle, () -> riddle.mayBe(wrong, 1));
            checks.dueIndex("mayBe(" + wrong + ", 0)", riddle, () -> riddle.mayBe(wrong, 0));
            checks.dueIndex("isKnown(" + wrong + ")", riddle, () -> riddle.isKnown(wrong));
            checks.dueIndex("guess(" + wrong + ", 1)", riddle, () -> riddle.guess(wrong, 1));
            checks.dueIndex("guess(" + wrong + ", 10)", riddle, () -> riddle.guess(wrong, 10));
            checks.dueIndex("leftAtMost(" + wrong + ", 1)", riddle, () -> riddle.leftAtMost(wrong, 1));
            checks.dueIndex("leftAtMost(0, " + wrong + ")", riddle, () -> riddle.leftAtMost(0, wrong));
            checks.dueIndex("leftAtMost(both " + wrong + ")", riddle, () -> riddle.leftAtMost(wrong, wrong));
        }
        for (int wrong : NO_VOLUME) {
            checks.dueArgument("mayBe(0, " + wrong + ")", riddle, () -> riddle.mayBe(0, wrong));
            checks.dueArgument("guess(0, " + wrong + ")", riddle, () -> riddle.guess(0, wrong));
        }
        checks.dueArgument("leftAtMost(0, 0)", riddle, () -> riddle.leftAtMost(0, 0));
        checks.dueArgument("leftAtMost(1, 1)", riddle, () -> riddle.leftAtMost(1, 1));
        JarRiddle three = laidOut(3, 5, 1);
        checks.dueIndex("mayBe(3, 1)", three, () -> three.mayBe(3, 1));
        checks.dueIndex("isKnown(3)", three, () -> three.isKnown(3));
        checks.dueIndex("guess(3, 1)", three, () -> three.guess(3, 1));
        checks.dueIndex("leftAtMost(2, 3)", three, () -> three.leftAtMost(2, 3));
        checks.dueArgument("leftAtMost(2, 2)", three, () -> three.leftAtMost(2, 2));
    }
}
