/** Promises 1 to 6: a new object, laying out, and the acts. */
public final class JarsAndActsTest {
    private static final int[] NO_JAR_OF_TWO = {-1, 2, 3, Integer.MIN_VALUE, Integer.MAX_VALUE};
    private static final int[] NO_JAR_OF_THREE = {-1, 3, Integer.MIN_VALUE, Integer.MAX_VALUE};
    private static final int[] NO_VOLUME = {-1, 10, Integer.MIN_VALUE, Integer.MAX_VALUE};

    private final Checks checks = new Checks();

    public static void main(String[] args) {
        JarsAndActsTest test = new JarsAndActsTest();
        test.promise1();
        test.promise2();
        test.promise2Wrong();
        test.promise3();
        test.promise4();
        test.promise5();
        test.promise6();
        test.promise6Wrong();
        test.checks.end("JarsAndActsTest");
    }

    private static JarRiddle laidOut(int a, int b, int c) {
        JarRiddle riddle = new JarRiddle();
        riddle.layOut(a, b, c);
        return riddle;
    }

    private void dueBeginning(String when, JarRiddle riddle, int candidates) {
        for (int jar = 0; jar < riddle.jars(); jar++) {
            checks.due(when + ": amountOf(" + jar + ")", riddle.amountOf(jar), 0);
        }
        checks.due(when + ": acts()", riddle.acts(), 0);
        checks.due(when + ": pouredInAll()", riddle.pouredInAll(), 0);
        checks.due(when + ": spilledInAll()", riddle.spilledInAll(), 0);
        checks.due(when + ": takenInAll()", riddle.takenInAll(), 0);
        checks.due(when + ": guesses()", riddle.guesses(), 0);
        checks.due(when + ": wrongGuesses()", riddle.wrongGuesses(), 0);
        checks.due(when + ": candidates()", riddle.candidates(), candidates);
    }

    private void promise1() {
        JarRiddle riddle = new JarRiddle();
        checks.due("1: jars()", riddle.jars(), 2);
        checks.due("1: volumeOf(0)", riddle.volumeOf(0), 1);
        checks.due("1: volumeOf(1)", riddle.volumeOf(1), 1);
        dueBeginning("1", riddle, 81);
    }

    private void promise2() {
        JarRiddle riddle = new JarRiddle();
        checks.due("2: layOut(1, 9, 0)", riddle.layOut(1, 9, 0), 2);
        checks.due("2: volumeOf(0)", riddle.volumeOf(0), 1);
        checks.due("2: volumeOf(1)", riddle.volumeOf(1), 9);
        riddle.fill(0);
        riddle.pour(0, 1);
        riddle.empty(1);
        riddle.fill(1);
        riddle.guess(0, 1);
        riddle.guess(1, 8);
        checks.due("2: layOut(9, 1, 5)", riddle.layOut(9, 1, 5), 3);
        checks.due("2: volumeOf(0)", riddle.volumeOf(0), 9);
        checks.due("2: volumeOf(1)", riddle.volumeOf(1), 1);
        checks.due("2: volumeOf(2)", riddle.volumeOf(2), 5);
        dueBeginning("2: behind layOut(9, 1, 5)", riddle, 729);
        checks.due("2: leastActs(9)", riddle.leastActs(9), 1);
        riddle.fill(2);
        checks.due("2: layOut(2, 3, 0)", riddle.layOut(2, 3, 0), 2);
        dueBeginning("2: behind layOut(2, 3, 0)", riddle, 81);
        checks.due("2: leastActs(9)", riddle.leastActs(9), -1);
        riddle.fill(1);
        riddle.pour(1, 0);
        checks.due("2: mayBe(1, 1) as b > a", riddle.mayBe(1, 1), false);
        riddle.layOut(1, 1, 0);
        checks.due("2: guess(0, 1) behind layOut(1, 1, 0)", riddle.guess(0, 1), true);
        checks.due("2: guess(1, 1) behind layOut(1, 1, 0)", riddle.guess(1, 1), true);
        checks.due("2: isKnown(1)", riddle.isKnown(1), true);
        checks.due("2: leastActs(9) of 1, 1", riddle.leastActs(9), -1);
        riddle.layOut(9, 9, 0);
        checks.due("2: leastActs(9) of 9, 9", riddle.leastActs(9), 1);
        checks.due("2: layOut(1, 1, 9)", riddle.layOut(1, 1, 9), 3);
        checks.due("2: layOut(1, 1, 1)", riddle.layOut(1, 1, 1), 3);
    }

    private void promise2Wrong() {
        JarRiddle riddle = laidOut(3, 5, 0);
        riddle.fill(1);
        riddle.pour(1, 0);
        riddle.guess(0, 4);
        checks.dueArgument("layOut(0, 1, 0)", riddle, () -> riddle.layOut(0, 1, 0));
        checks.dueArgument("layOut(1, 0, 0)", riddle, () -> riddle.layOut(1, 0, 0));
        for (int wrong : NO_VOLUME) {
            checks.dueArgument("layOut(" + wrong + ", 1, 0)", riddle, () -> riddle.layOut(wrong, 1, 0));
            checks.dueArgument("layOut(1, " + wrong + ", 0)", riddle, () -> riddle.layOut(1, wrong, 0));
            checks.dueArgument("layOut(1, 1, " + wrong + ")", riddle, () -> riddle.layOut(1, 1, wrong));
        }
    }

    private void promise3() {
        JarRiddle riddle = laidOut(3, 5, 0);
        checks.due("3: fill(1)", riddle.fill(1), 5);
        checks.due("3: fill(1) again", riddle.fill(1), 0);
        riddle.pour(1, 0);
        checks.due("3: fill(1) where 2 are in", riddle.fill(1), 3);
        checks.due("3: amountOf(1)", riddle.amountOf(1), 5);
        checks.due("3: amountOf(0)", riddle.amountOf(0), 3);
        checks.due("3: takenInAll()", riddle.takenInAll(), 8);
        checks.due("3: acts()", riddle.acts(), 4);
        for (int wrong : NO_JAR_OF_TWO) {
            checks.dueIndex("fill(" + wrong + ")", riddle, () -> riddle.fill(wrong));
        }
        JarRiddle three = laidOut(1, 2, 9);
        checks.due("3: fill(2)", three.fill(2), 9);
        for (int wrong : NO_JAR_OF_THREE) {
            checks.dueIndex("fill(" + wrong + ") of three", three, () -> three.fill(wrong));
        }
    }

    private void promise4() {
        JarRiddle riddle = laidOut(3, 5, 0);
        checks.due("4: empty(1) at first", riddle.empty(1), 0);
        riddle.fill(1);
        riddle.pour(1, 0);
        checks.due("4: empty(1)", riddle.empty(1), 2);
        checks.due("4: amountOf(1)", riddle.amountOf(1), 0);
        checks.due("4: amountOf(0)", riddle.amountOf(0), 3);
        checks.due("4: empty(0)", riddle.empty(0), 3);
        checks.due("4: spilledInAll()", riddle.spilledInAll(), 5);
        checks.due("4: acts()", riddle.acts(), 5);
        for (int wrong : NO_JAR_OF_TWO) {
            checks.dueIndex("empty(" + wrong + ")", riddle, () -> riddle.empty(wrong));
        }
        JarRiddle three = laidOut(1, 2, 9);
        three.fill(2);
        checks.due("4: empty(2)", three.empty(2), 9);
        for (int wrong : NO_JAR_OF_THREE) {
            checks.dueIndex("empty(" + wrong + ") of three", three, () -> three.empty(wrong));
        }
    }

    private void promise5() {
        JarRiddle riddle = laidOut(3, 5, 4);
        riddle.fill(1);
        checks.due("5: pour(1, 0), no more than there is room", riddle.pour(1, 0), 3);
        checks.due("5: amountOf(1)", riddle.amountOf(1), 2);
        checks.due("5: amountOf(0)", riddle.amountOf(0), 3);
        checks.due("5: pour(1, 0) where there is no room", riddle.pour(1, 0), 0);
        checks.due("5: pour(1, 2), all that it holds", riddle.pour(1, 2), 2);
        checks.due("5: pour(1, 2) where there is nothing", riddle.pour(1, 2), 0);
        checks.due("5: pour(0, 2)", riddle.pour(0, 2), 2);
        checks.due("5: pour(2, 1)", riddle.pour(2, 1), 4);
        checks.due("5: pour(0, 1)", riddle.pour(0, 1), 1);
        checks.due("5: pour(1, 2)", riddle.pour(1, 2), 4);
        checks.due("5: pour(2, 0)", riddle.pour(2, 0), 3);
        checks.due("5: pouredInAll()", riddle.pouredInAll(), 19);
        checks.due("5: acts()", riddle.acts(), 10);
        checks.due("5: heldInAll()", riddle.heldInAll(), 5);
        for (int jar = 0; jar < 3; jar++) {
            int same = jar;
            checks.dueArgument("pour(" + jar + ", " + jar + ")", riddle, () -> riddle.pour(same, same));
        }
        for (int wrong : NO_JAR_OF_THREE) {
            checks.dueIndex("pour(0, " + wrong + ") of three", riddle, () -> riddle.pour(0, wrong));
        }
        JarRiddle two = laidOut(3, 5, 0);
        for (int wrong : NO_JAR_OF_TWO) {
            checks.dueIndex("pour(0, " + wrong + ")", two, () -> two.pour(0, wrong));
            checks.dueIndex("pour(" + wrong + ", 1)", two, () -> two.pour(wrong, 1));
            checks.dueIndex("pour(" + wrong + ", " + wrong + ")", two, () -> two.pour(wrong, wrong));
        }
    }

    private void promise6() {
        JarRiddle riddle = laidOut(3, 5, 0);
        checks.due("6: follow(4, 2)", riddle.follow(4, 2), 2);
        checks.due("6: amountOf(0)", riddle.amountOf(0), 3);
        checks.due("6: amountOf(1)", riddle.amountOf(1), 2);
        checks.due("6: candidates()", riddle.candidates(), 36);
        checks.due("6: follow(4, 50)", riddle.follow(4, 50), 4);
        checks.due("6: amountOf(0)", riddle.amountOf(0), 3);
        checks.due("6: amountOf(1)", riddle.amountOf(1), 4);
        checks.due("6: acts()", riddle.acts(), 6);
        checks.due("6: takenInAll()", riddle.takenInAll(), 10);
        checks.due("6: spilledInAll()", riddle.spilledInAll(), 3);
        checks.due("6: pouredInAll()", riddle.pouredInAll(), 6);
        checks.due("6: candidates()", riddle.candidates(), 16);
        checks.due("6: follow(4, 1) as it is there", riddle.follow(4, 1), 0);
        checks.due("6: acts() as before", riddle.acts(), 6);
        JarRiddle other = laidOut(3, 5, 0);
        checks.due("6: follow(4, 6)", other.follow(4, 6), 6);
        checks.due("6: isThere(4)", other.isThere(4), true);
        checks.due("6: follow(0, 50)", other.follow(0, 50), 1);
        checks.due("6: amountOf(0)", other.amountOf(0), 0);
    }

    private void promise6Wrong() {
        JarRiddle riddle = laidOut(4, 6, 0);
        for (int wrong : NO_VOLUME) {
            checks.dueArgument("follow(" + wrong + ", 1)", riddle, () -> riddle.follow(wrong, 1));
        }
        int[] noActs = {0, -1, 51, Integer.MIN_VALUE, Integer.MAX_VALUE};
        for (int wrong : noActs) {
            checks.dueArgument("follow(4, " + wrong + ")", riddle, () -> riddle.follow(4, wrong));
            checks.dueArgument("follow(5, " + wrong + ")", riddle, () -> riddle.follow(5, wrong));
        }
        checks.dueState("follow(5, 1)", riddle, () -> riddle.follow(5, 1));
        checks.dueState("follow(9, 50)", riddle, () -> riddle.follow(9, 50));
    }
}
