import java.math.BigInteger;
import java.util.ArrayList;
import java.util.List;

/**
 * Promises 25 to 34: what the guesser knows, the mean and the checksum. What is refused:
 * RefusedCallsTest.
 */
public final class GuesserTest {
    private final Checks checks = new Checks();

    public static void main(String[] args) {
        GuesserTest test = new GuesserTest();
        test.promise25AsJarsAreLaidOut();
        test.promise25();
        test.promise25SeesEmptyAndFull();
        test.promise25OneIsLeft();
        test.promise26();
        test.promise27();
        test.promise27ByWrongGuesses();
        test.promise28EachVolume();
        test.promises28To30();
        test.promise28ChangesNoJar();
        test.promise31();
        test.promise31Bounds();
        test.promise32();
        test.promise32OfSeveral();
        test.promise32NoneTellsFewer();
        test.promise33();
        test.promise34();
        test.promise34OfScenes();
        test.checks.end("GuesserTest");
    }

    private void dueVolumes(String when, JarRiddle riddle, int jar, String volumes) {
        for (int volume = 1; volume <= 9; volume++) {
            boolean due = volumes.indexOf('0' + volume) >= 0;
            checks.due("26: mayBe(" + jar + ", " + volume + ") " + when, riddle.mayBe(jar, volume), due);
        }
        checks.due("27: isKnown(" + jar + ") " + when, riddle.isKnown(jar), volumes.length() == 1);
    }

    /** As jars are laid out, all rows are candidates: 9 * 9 of two jars, 9 * 9 * 9 of three. */
    private void promise25AsJarsAreLaidOut() {
        int[][] rows = {{1, 1, 0}, {9, 9, 0}, {1, 9, 0}, {1, 1, 1}, {9, 9, 9}, {9, 1, 5}};
        for (int[] row : rows) {
            JarRiddle riddle = Scene.laidOut(row[0], row[1], row[2]);
            checks.due("25: candidates()", riddle.candidates(), row[2] == 0 ? 81 : 729);
            for (int jar = 0; jar < riddle.jars(); jar++) {
                dueVolumes("as jars are laid out", riddle, jar, "123456789");
            }
        }
        checks.due("25: candidates() of a new object", new JarRiddle().candidates(), 81);
    }

    private void promise25() {
        JarRiddle riddle = Scene.laidOut(3, 5, 0);
        riddle.fill(1);
        riddle.empty(0);
        checks.due("25: candidates() where nothing is told", riddle.candidates(), 81);
        riddle.pour(1, 0);
        checks.due("25: candidates() as b > a", riddle.candidates(), 36);
        riddle.empty(0);
        riddle.pour(1, 0);
        checks.due("25: candidates() as b < 2 * a", riddle.candidates(), 16);
        JarRiddle three = Scene.laidOut(3, 5, 4);
        three.fill(2);
        three.pour(2, 0);
        checks.due("25: candidates() as c > a", three.candidates(), 324);
    }

    /** Of a pour from a full jar into an empty one it is seen which one is smaller, or that none is. */
    private void promise25SeesEmptyAndFull() {
        for (int a = 1; a <= 9; a++) {
            for (int b = 1; b <= 9; b++) {
                int due = a == b ? 9 : 36;
                JarRiddle two = Scene.laidOut(a, b, 0);
                two.fill(0);
                two.pour(0, 1);
                checks.due("25: candidates() of " + a + " into " + b, two.candidates(), due);
                JarRiddle three = Scene.laidOut(5, a, b);
                three.fill(2);
                three.pour(2, 1);
                checks.due("25: candidates() of the jar 2 into the jar 1", three.candidates(), 9 * due);
                dueVolumes("of a jar that is not seen to do anything", three, 0, "123456789");
            }
        }
    }

    /** Nine times the smallest volume is the greatest one: behind that, nothing is open any more. */
    private void promise25OneIsLeft() {
        JarRiddle riddle = Scene.laidOut(1, 9, 0);
        riddle.fill(1);
        for (int i = 1; i <= 7; i++) {
            riddle.pour(1, 0);
            riddle.empty(0);
        }
        checks.due("25: candidates() as b is 8 or 9", riddle.candidates(), 2);
        dueVolumes("as b is 8 or 9", riddle, 0, "1");
        dueVolumes("as b is 8 or 9", riddle, 1, "89");
        riddle.pour(1, 0);
        checks.due("25: candidates(), one at the least", riddle.candidates(), 1);
        dueVolumes("as all is seen", riddle, 0, "1");
        dueVolumes("as all is seen", riddle, 1, "9");
        checks.due("29: guesses()", riddle.guesses(), 0);
    }

    private void promise26() {
        JarRiddle riddle = Scene.laidOut(3, 5, 0);
        riddle.fill(1);
        riddle.pour(1, 0);
        dueVolumes("as b > a", riddle, 0, "12345678");
        dueVolumes("as b > a", riddle, 1, "23456789");
        JarRiddle three = Scene.laidOut(2, 2, 1);
        three.fill(2);
        three.pour(2, 1);
        dueVolumes("as c < b", three, 2, "12345678");
        dueVolumes("as c < b", three, 1, "23456789");
        dueVolumes("as c < b", three, 0, "123456789");
    }

    private void promise27() {
        JarRiddle riddle = Scene.laidOut(9, 8, 0);
        riddle.fill(0);
        riddle.pour(0, 1);
        dueVolumes("as a > b", riddle, 1, "12345678");
        riddle.guess(1, 8);
        dueVolumes("as it is guessed", riddle, 1, "8");
        dueVolumes("as it is greater than 8", riddle, 0, "9");
        checks.due("25: candidates() as all is known", riddle.candidates(), 1);
        JarRiddle three = Scene.laidOut(1, 2, 3);
        three.guess(2, 3);
        dueVolumes("as it is guessed", three, 2, "3");
        dueVolumes("as another one is guessed", three, 1, "123456789");
        dueVolumes("as another one is guessed", three, 0, "123456789");
    }

    /** With two volumes left, a jar is not known yet; with one it is, though it was never guessed. */
    private void promise27ByWrongGuesses() {
        JarRiddle riddle = Scene.laidOut(9, 1, 0);
        for (int volume = 1; volume <= 7; volume++) {
            checks.due("28: guess(0, " + volume + ")", riddle.guess(0, volume), false);
        }
        dueVolumes("behind seven wrong guesses", riddle, 0, "89");
        checks.due("28: guess(0, 8)", riddle.guess(0, 8), false);
        dueVolumes("behind eight wrong guesses", riddle, 0, "9");
        checks.due("25: candidates() behind eight wrong guesses", riddle.candidates(), 9);
        checks.due("28: guess(0, 9), which is known", riddle.guess(0, 9), true);
        checks.due("25: candidates() behind that", riddle.candidates(), 9);
        checks.due("29: guesses()", riddle.guesses(), 9);
        checks.due("30: wrongGuesses()", riddle.wrongGuesses(), 8);
    }

    /** A right guess leaves just the rows with this volume in this jar, a wrong one just the others. */
    private void promise28EachVolume() {
        for (int third = 0; third <= 4; third += 4) {
            int rows = third == 0 ? 81 : 729;
            int jars = third == 0 ? 2 : 3;
            for (int jar = 0; jar < jars; jar++) {
                for (int volume = 1; volume <= 9; volume++) {
                    JarRiddle riddle = Scene.laidOut(1, 9, third);
                    boolean right = volume == (jar == 0 ? 1 : jar == 1 ? 9 : 4);
                    String call = "28: guess(" + jar + ", " + volume + ") of " + jars;
                    checks.due(call, riddle.guess(jar, volume), right);
                    checks.due(call + ": candidates()", riddle.candidates(), right ? rows / 9 : rows - rows / 9);
                    checks.due(call + ": guesses()", riddle.guesses(), 1);
                    checks.due(call + ": wrongGuesses()", riddle.wrongGuesses(), right ? 0 : 1);
                    String all = "123456789";
                    String it = String.valueOf(volume);
                    dueVolumes("behind it", riddle, jar, right ? it : all.replace(it, ""));
                    dueVolumes("behind a guess of another one", riddle, (jar + 1) % jars, all);
                }
            }
        }
    }

    private void promises28To30() {
        JarRiddle riddle = Scene.laidOut(3, 5, 0);
        checks.due("29: guesses() at first", riddle.guesses(), 0);
        checks.due("30: wrongGuesses() at first", riddle.wrongGuesses(), 0);
        checks.due("28: guess(0, 9)", riddle.guess(0, 9), false);
        String again = Answers.answer(riddle, r -> r.guess(0, 9));
        checks.due("28: guess(0, 9) again", again, "java.lang.IllegalStateException");
        checks.due("29: guesses(), a refused one is none", riddle.guesses(), 1);
        checks.due("30: wrongGuesses(), a refused one is none", riddle.wrongGuesses(), 1);
        checks.due("28: guess(0, 3)", riddle.guess(0, 3), true);
        checks.due("28: guess(0, 3) again", riddle.guess(0, 3), true);
        checks.due("25: candidates() with 3", riddle.candidates(), 9);
        checks.due("28: guess(1, 1)", riddle.guess(1, 1), false);
        checks.due("25: candidates() with 3 and without 1", riddle.candidates(), 8);
        checks.due("29: guesses()", riddle.guesses(), 4);
        checks.due("30: wrongGuesses()", riddle.wrongGuesses(), 2);
        riddle.fill(1);
        riddle.pour(1, 0);
        checks.due("25: candidates() as b > 3", riddle.candidates(), 6);
        dueVolumes("as b > 3", riddle, 1, "456789");
    }

    private void promise28ChangesNoJar() {
        JarRiddle riddle = Scene.laidOut(3, 5, 0);
        riddle.fill(1);
        riddle.pour(1, 0);
        List<String> before = ofJars(riddle);
        riddle.guess(0, 3);
        riddle.guess(1, 9);
        checks.dueSame("28: guesses change no jar", ofJars(riddle), before);
    }

    /** The answers that no guesser has to do with. */
    private static List<String> ofJars(JarRiddle riddle) {
        List<String> told = new ArrayList<>();
        for (String answer : Answers.of(riddle)) {
            if (!answer.matches("(candidates|guesses|wrongGuesses|isKnown|mayBe|leftAtMost|bestPour|digest)[(].*")) {
                told.add(answer);
            }
        }
        return told;
    }

    private void promise31() {
        JarRiddle riddle = Scene.laidOut(3, 5, 0);
        riddle.fill(1);
        checks.due("31: leftAtMost(1, 0), 36 or 9 or 36", riddle.leftAtMost(1, 0), 36);
        riddle.guess(1, 5);
        checks.due("31: leftAtMost(1, 0) as b is 5", riddle.leftAtMost(1, 0), 4);
        riddle.guess(0, 9);
        riddle.guess(0, 8);
        checks.due("31: leftAtMost(1, 0), more rows with a < 5 than with a > 5", riddle.leftAtMost(1, 0), 4);
        riddle.guess(0, 1);
        riddle.guess(0, 2);
        riddle.guess(0, 4);
        checks.due("31: leftAtMost(1, 0), more rows with a > 5 than with a < 5", riddle.leftAtMost(1, 0), 2);
        checks.due("25: candidates() as before", riddle.candidates(), 4);
        JarRiddle three = Scene.laidOut(3, 5, 4);
        three.fill(2);
        checks.due("31: leftAtMost(2, 1) of three", three.leftAtMost(2, 1), 324);
        checks.due("31: leftAtMost(2, 0) of three", three.leftAtMost(2, 0), 324);
    }

    /** As many as there are where nothing would be told, and one where all would be. */
    private void promise31Bounds() {
        JarRiddle riddle = Scene.laidOut(2, 2, 0);
        checks.due("31: leftAtMost(0, 1) of empty jars", riddle.leftAtMost(0, 1), 81);
        riddle.fill(1);
        checks.due("31: leftAtMost(0, 1) from an empty jar", riddle.leftAtMost(0, 1), 81);
        riddle.fill(0);
        checks.due("31: leftAtMost(0, 1) into a full jar", riddle.leftAtMost(0, 1), 81);
        riddle.empty(0);
        riddle.guess(0, 2);
        for (int volume = 4; volume <= 9; volume++) {
            riddle.guess(1, volume);
        }
        checks.due("25: candidates(), b is 1, 2 or 3", riddle.candidates(), 3);
        checks.due("31: leftAtMost(1, 0), each tells another", riddle.leftAtMost(1, 0), 1);
        checks.due("32: bestPour()", riddle.bestPour(), 9);
        riddle.pour(1, 0);
        checks.due("25: candidates() behind that pour", riddle.candidates(), 1);
        checks.due("31: leftAtMost(1, 0) as all is known", riddle.leftAtMost(1, 0), 1);
        JarRiddle three = Scene.laidOut(9, 9, 9);
        checks.due("31: leftAtMost(2, 0) of empty jars", three.leftAtMost(2, 0), 729);
        three.fill(2);
        checks.due("31: leftAtMost(0, 2) from an empty jar", three.leftAtMost(0, 2), 729);
    }

    private static JarRiddle withFull(int jar, int a, int b, int c) {
        JarRiddle riddle = Scene.laidOut(a, b, c);
        riddle.fill(jar);
        return riddle;
    }

    private void promise32() {
        checks.due("32: bestPour() of two, jar 0 full", withFull(0, 3, 5, 0).bestPour(), 7);
        checks.due("32: bestPour() of two, jar 1 full", withFull(1, 3, 5, 0).bestPour(), 9);
        JarRiddle riddle = Scene.laidOut(3, 5, 4);
        riddle.fill(2);
        riddle.pour(2, 0);
        riddle.guess(0, 3);
        checks.due("31: leftAtMost(2, 1)", riddle.leftAtMost(2, 1), 33);
        checks.due("31: leftAtMost(0, 1)", riddle.leftAtMost(0, 1), 36);
        checks.due("32: bestPour(), the fewest though not the smallest number", riddle.bestPour(), 13);
        riddle.guess(1, 5);
        checks.due("32: bestPour() as a = 3 and b = 5", riddle.bestPour(), 13);
    }

    private void promise32OfSeveral() {
        checks.due("32: bestPour() of 7 and 8", withFull(0, 3, 5, 4).bestPour(), 7);
        checks.due("32: bestPour() of 9 and 11", withFull(1, 3, 5, 4).bestPour(), 9);
        checks.due("32: bestPour() of 12 and 13", withFull(2, 3, 5, 4).bestPour(), 12);
        JarRiddle riddle = withFull(2, 3, 5, 4);
        riddle.fill(1);
        checks.due("32: bestPour() of 9 and 12", riddle.bestPour(), 9);
    }

    private void promise32NoneTellsFewer() {
        checks.due("32: bestPour() of two empty jars", new JarRiddle().bestPour(), -1);
        checks.due("32: bestPour() of three empty jars", Scene.laidOut(7, 8, 9).bestPour(), -1);
        JarRiddle riddle = withFull(0, 3, 5, 4);
        riddle.fill(1);
        riddle.fill(2);
        checks.due("32: bestPour() of three full jars", riddle.bestPour(), -1);
        JarRiddle known = withFull(1, 3, 5, 0);
        known.guess(0, 3);
        known.guess(1, 5);
        checks.due("25: candidates() as all is known", known.candidates(), 1);
        checks.due("32: bestPour() as all is known", known.bestPour(), -1);
        JarRiddle same = withFull(0, 4, 4, 0);
        same.pour(0, 1);
        checks.due("25: candidates() as a == b", same.candidates(), 9);
        checks.due("32: bestPour() as a == b", same.bestPour(), -1);
    }

    private void promise33() {
        JarRiddle riddle = new JarRiddle();
        checks.due("33: meanAmount() of two empty jars", riddle.meanAmount(), 0.0);
        riddle.fill(0);
        checks.due("33: meanAmount() of 1 and 0", riddle.meanAmount(), 0.5);
        riddle.layOut(9, 9, 0);
        riddle.fill(0);
        riddle.fill(1);
        checks.due("33: meanAmount() of 9 and 9", riddle.meanAmount(), 9.0);
        riddle.layOut(9, 9, 9);
        checks.due("33: meanAmount() of three empty jars", riddle.meanAmount(), 0.0);
        riddle.fill(2);
        checks.due("33: meanAmount() of 0, 0 and 9", riddle.meanAmount(), 3.0);
        riddle.fill(0);
        riddle.fill(1);
        checks.due("33: meanAmount() of 9, 9 and 9", riddle.meanAmount(), 9.0);
        riddle.layOut(1, 3, 4);
        riddle.fill(2);
        checks.due("33: meanAmount() of 0, 0 and 4", riddle.meanAmount(), 4.0 / 3);
        riddle.fill(1);
        checks.due("33: meanAmount() of 0, 3 and 4", riddle.meanAmount(), 7.0 / 3);
        riddle.layOut(1, 1, 1);
        riddle.fill(1);
        checks.due("33: meanAmount() of 0, 1 and 0", riddle.meanAmount(), 1.0 / 3);
    }

    private void promise34() {
        JarRiddle known = Scene.laidOut(3, 5, 0);
        known.fill(1);
        known.pour(1, 0);
        known.empty(0);
        known.pour(1, 0);
        known.fill(1);
        known.pour(1, 0);
        known.guess(0, 3);
        checks.due("34: digest()", known.digest(), 9000258852384275131L);
    }

    private void promise34OfScenes() {
        for (Scene scene : Scene.all()) {
            JarRiddle riddle = scene.make();
            checks.due("34: digest() of " + scene.name(), riddle.digest(), digestOf(riddle));
        }
    }

    private static List<Integer> numbersOf(JarRiddle r) {
        List<Integer> x = new ArrayList<>(List.of(r.jars(), r.heldInAll(), r.acts(), r.pouredInAll(),
            r.spilledInAll(), r.takenInAll(), r.candidates(), r.guesses(), r.wrongGuesses()));
        x.addAll(List.of(r.amountsToHave(), r.statesToReach(), r.farthest()));
        for (int jar = 0; jar < r.jars(); jar++) {
            x.add(r.volumeOf(jar));
            x.add(r.amountOf(jar));
            x.add(r.isEmpty(jar) ? 1 : 0);
            x.add(r.isFull(jar) ? 1 : 0);
            x.add(r.isKnown(jar) ? 1 : 0);
            for (int volume = 1; volume <= 9; volume++) {
                x.add(r.mayBe(jar, volume) ? 1 : 0);
            }
        }
        for (int amount = 0; amount <= 9; amount++) {
            x.add(r.leastActs(amount));
        }
        return x;
    }

    /** Without any wrap-around, until the last 64 bits are taken. */
    private static long digestOf(JarRiddle riddle) {
        BigInteger d = BigInteger.valueOf(1877);
        for (int x : numbersOf(riddle)) {
            d = d.multiply(BigInteger.valueOf(31)).add(BigInteger.valueOf(x));
        }
        return d.longValue();
    }
}
