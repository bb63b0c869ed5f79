import java.util.List;

/** Promises 1 to 6, and what "Terms" says of jars and acts. What is refused: RefusedCallsTest. */
public final class JarsAndActsTest {
    private final Checks checks = new Checks();

    public static void main(String[] args) {
        JarsAndActsTest test = new JarsAndActsTest();
        test.promise1();
        test.promise2();
        test.promise2BeginsAnew();
        test.promise3();
        test.promise4();
        test.promise5();
        test.promise5EachPour();
        test.promise6();
        test.promise6AsManyActsAsTold();
        test.promise6AsNextActTells();
        test.promise6WhereItIsThere();
        test.actsThatChangeNothing();
        test.checks.end("JarsAndActsTest");
    }

    private void dueAmounts(String when, JarRiddle riddle, int... amounts) {
        checks.due(when + ": jars()", riddle.jars(), amounts.length);
        for (int jar = 0; jar < amounts.length; jar++) {
            checks.due(when + ": amountOf(" + jar + ")", riddle.amountOf(jar), amounts[jar]);
        }
    }

    private void dueBeginning(String when, JarRiddle riddle, int... volumes) {
        dueAmounts(when, riddle, new int[volumes.length]);
        for (int jar = 0; jar < volumes.length; jar++) {
            checks.due(when + ": volumeOf(" + jar + ")", riddle.volumeOf(jar), volumes[jar]);
        }
        checks.due(when + ": acts()", riddle.acts(), 0);
        checks.due(when + ": pouredInAll()", riddle.pouredInAll(), 0);
        checks.due(when + ": spilledInAll()", riddle.spilledInAll(), 0);
        checks.due(when + ": takenInAll()", riddle.takenInAll(), 0);
        checks.due(when + ": guesses()", riddle.guesses(), 0);
        checks.due(when + ": wrongGuesses()", riddle.wrongGuesses(), 0);
        checks.due(when + ": candidates()", riddle.candidates(), volumes.length == 2 ? 81 : 729);
    }

    private void promise1() {
        dueBeginning("1", new JarRiddle(), 1, 1);
        checks.dueSame("1: as behind layOut(1, 1, 0)", Answers.of(new JarRiddle()),
            Answers.of(Scene.laidOut(1, 1, 0)));
    }

    /** The smallest and the greatest volume of each jar, and the one that says: no jar 2. */
    private void promise2() {
        JarRiddle riddle = new JarRiddle();
        int[][] rows = {{1, 1}, {9, 9}, {1, 9}, {9, 1}, {1, 1, 1}, {9, 9, 9}, {1, 9, 9}, {9, 1, 9}, {9, 9, 1}};
        for (int[] row : rows) {
            int third = row.length == 2 ? 0 : row[2];
            String call = "2: layOut(" + row[0] + ", " + row[1] + ", " + third + ")";
            checks.due(call, riddle.layOut(row[0], row[1], third), row.length);
            dueBeginning(call, riddle, row);
        }
    }

    /** Behind layOut() nothing is as it was, and nothing that was done before is told any more. */
    private void promise2BeginsAnew() {
        int[][] rows = {{1, 1, 0}, {9, 9, 0}, {3, 5, 0}, {1, 1, 1}, {9, 9, 9}, {3, 5, 4}};
        for (Scene scene : Scene.all()) {
            for (int[] row : rows) {
                JarRiddle riddle = scene.make();
                riddle.leastActs(9);
                int jars = riddle.layOut(row[0], row[1], row[2]);
                String call = "2: layOut(" + row[0] + ", " + row[1] + ", " + row[2] + ") behind " + scene.name();
                checks.due(call, jars, row[2] == 0 ? 2 : 3);
                checks.dueSame(call, Answers.of(riddle), Answers.of(Scene.laidOut(row[0], row[1], row[2])));
            }
        }
    }

    private void promise3() {
        JarRiddle riddle = Scene.laidOut(1, 9, 0);
        checks.due("3: fill(0), the smallest volume", riddle.fill(0), 1);
        dueAmounts("3: fill(0)", riddle, 1, 0);
        checks.due("3: fill(1), the greatest volume", riddle.fill(1), 9);
        dueAmounts("3: fill(1)", riddle, 1, 9);
        checks.due("3: fill(1), a full jar", riddle.fill(1), 0);
        dueAmounts("3: fill(1), a full jar", riddle, 1, 9);
        riddle.empty(0);
        riddle.pour(1, 0);
        checks.due("3: fill(1), room for 1", riddle.fill(1), 1);
        dueAmounts("3: fill(1), room for 1", riddle, 1, 9);
        JarRiddle three = Scene.laidOut(7, 8, 9);
        checks.due("3: fill(2), the jar 2 of three", three.fill(2), 9);
        dueAmounts("3: fill(2), the jar 2 of three", three, 0, 0, 9);
        three.pour(2, 0);
        checks.due("3: fill(0) of three, full by pouring", three.fill(0), 0);
        checks.due("3: fill(2) of three, partly full", three.fill(2), 7);
        dueAmounts("3: fill(2) of three, partly full", three, 7, 0, 9);
    }

    private void promise4() {
        JarRiddle riddle = Scene.laidOut(1, 9, 0);
        checks.due("4: empty(1), an empty jar", riddle.empty(1), 0);
        dueAmounts("4: empty(1), an empty jar", riddle, 0, 0);
        riddle.fill(1);
        riddle.pour(1, 0);
        checks.due("4: empty(1), partly full", riddle.empty(1), 8);
        dueAmounts("4: empty(1), partly full", riddle, 1, 0);
        checks.due("4: empty(0), the smallest volume", riddle.empty(0), 1);
        dueAmounts("4: empty(0)", riddle, 0, 0);
        riddle.fill(1);
        checks.due("4: empty(1), a full jar", riddle.empty(1), 9);
        dueAmounts("4: empty(1), a full jar", riddle, 0, 0);
        JarRiddle three = Scene.laidOut(1, 2, 9);
        three.fill(0);
        three.fill(2);
        checks.due("4: empty(2), the jar 2 of three", three.empty(2), 9);
        dueAmounts("4: empty(2), the jar 2 of three", three, 1, 0, 0);
    }

    /** As much as the first jar holds, but no more than the second one has room for. */
    private void promise5() {
        JarRiddle riddle = Scene.laidOut(3, 5, 0);
        checks.due("5: both empty", riddle.pour(0, 1), 0);
        dueAmounts("5: both empty", riddle, 0, 0);
        riddle.fill(0);
        checks.due("5: 3 into room for 5", riddle.pour(0, 1), 3);
        dueAmounts("5: 3 into room for 5", riddle, 0, 3);
        checks.due("5: 3 into room for just 3", riddle.pour(1, 0), 3);
        dueAmounts("5: 3 into room for just 3", riddle, 3, 0);
        checks.due("5: from an empty jar into a full one", riddle.pour(1, 0), 0);
        riddle.pour(0, 1);
        riddle.fill(0);
        checks.due("5: 3 into room for 2", riddle.pour(0, 1), 2);
        dueAmounts("5: 3 into room for 2", riddle, 1, 5);
        checks.due("5: 1 into a full jar", riddle.pour(0, 1), 0);
        dueAmounts("5: 1 into a full jar", riddle, 1, 5);
        riddle.empty(1);
        checks.due("5: from an empty jar", riddle.pour(1, 0), 0);
        dueAmounts("5: from an empty jar", riddle, 1, 0);
        checks.due("5: 1 into an empty jar", riddle.pour(0, 1), 1);
        dueAmounts("5: 1 into an empty jar", riddle, 0, 1);
        JarRiddle nines = Scene.laidOut(9, 9, 0);
        nines.fill(0);
        checks.due("5: 9, the most that goes over", nines.pour(0, 1), 9);
        dueAmounts("5: 9, the most that goes over", nines, 0, 9);
        nines.fill(0);
        checks.due("5: both full", nines.pour(0, 1), 0);
        dueAmounts("5: both full", nines, 9, 9);
    }

    /** Each of the six pours between three jars moves what it has to, and leaves the third jar. */
    private void promise5EachPour() {
        for (int from = 0; from < 3; from++) {
            for (int to = 0; to < 3; to++) {
                if (from != to) {
                    JarRiddle riddle = Scene.laidOut(2, 3, 4);
                    int third = 3 - from - to;
                    riddle.fill(from);
                    riddle.fill(third);
                    int due = Math.min(2 + from, 2 + to);
                    String call = "5: pour(" + from + ", " + to + ")";
                    checks.due(call, riddle.pour(from, to), due);
                    checks.due(call + ": from", riddle.amountOf(from), 2 + from - due);
                    checks.due(call + ": to", riddle.amountOf(to), due);
                    checks.due(call + ": the third", riddle.amountOf(third), 2 + third);
                    checks.due(call + ": pouredInAll()", riddle.pouredInAll(), due);
                    checks.due(call + ": acts()", riddle.acts(), 3);
                }
            }
        }
    }

    private void promise6() {
        JarRiddle riddle = Scene.laidOut(3, 5, 0);
        checks.due("6: follow(4, 2)", riddle.follow(4, 2), 2);
        dueAmounts("6: follow(4, 2)", riddle, 3, 2);
        checks.due("6: candidates(), the guesser sees these acts too", riddle.candidates(), 36);
        checks.due("6: follow(4, 50)", riddle.follow(4, 50), 4);
        dueAmounts("6: follow(4, 50)", riddle, 3, 4);
        checks.due("6: acts()", riddle.acts(), 6);
        checks.due("6: takenInAll()", riddle.takenInAll(), 10);
        checks.due("6: spilledInAll()", riddle.spilledInAll(), 3);
        checks.due("6: pouredInAll()", riddle.pouredInAll(), 6);
        checks.due("6: candidates()", riddle.candidates(), 16);
        JarRiddle three = Scene.laidOut(1, 1, 9);
        checks.due("6: follow(9, 1), the greatest amount", three.follow(9, 1), 1);
        dueAmounts("6: follow(9, 1)", three, 0, 0, 9);
        three.fill(0);
        three.fill(1);
        checks.due("6: follow(0, 50), the smallest amount", three.follow(0, 50), 1);
        dueAmounts("6: follow(0, 50)", three, 0, 1, 9);
    }

    /** One act at the least, as many as told, and no more than lead to the amount, 6 of them here. */
    private void promise6AsManyActsAsTold() {
        for (int acts = 1; acts <= 50; acts++) {
            JarRiddle riddle = Scene.laidOut(3, 5, 0);
            int due = Math.min(acts, 6);
            String call = "6: follow(4, " + acts + ")";
            checks.due(call, riddle.follow(4, acts), due);
            checks.due(call + ": acts()", riddle.acts(), due);
            checks.due(call + ": isThere(4)", riddle.isThere(4), due == 6);
            checks.due(call + ": leastActs(4)", riddle.leastActs(4), 6 - due);
        }
    }

    private void promise6AsNextActTells() {
        for (Scene scene : Scene.all()) {
            for (int amount = 0; amount <= 9; amount++) {
                if (scene.canBeHad(amount)) {
                    JarRiddle followed = scene.make();
                    JarRiddle told = scene.make();
                    int due = told.leastActs(amount);
                    String call = "6: follow(" + amount + ", 50) at " + scene.name();
                    checks.due(call, followed.follow(amount, 50), due);
                    for (int act = 0; act < due; act++) {
                        doAct(told, told.nextAct(amount));
                    }
                    checks.dueSame(call, Answers.of(followed), Answers.of(told));
                    checks.due(call + ": isThere()", followed.isThere(amount), true);
                }
            }
        }
    }

    private static void doAct(JarRiddle riddle, int act) {
        if (act < 3) {
            riddle.fill(act);
        } else if (act < 6) {
            riddle.empty(act - 3);
        } else {
            riddle.pour((act - 6) / 3, (act - 6) % 3);
        }
    }

    /** It ends as some jar holds the amount: if one does at once, nothing is done. */
    private void promise6WhereItIsThere() {
        for (Scene scene : Scene.all()) {
            for (int amount = 0; amount <= 9; amount++) {
                JarRiddle riddle = scene.make();
                if (riddle.isThere(amount)) {
                    String call = "6: follow(" + amount + ", 1), which is there, at " + scene.name();
                    List<String> before = Answers.of(riddle);
                    checks.due(call, riddle.follow(amount, 1), 0);
                    checks.dueSame(call, Answers.of(riddle), before);
                    checks.due("6: follow(" + amount + ", 50)", riddle.follow(amount, 50), 0);
                }
            }
        }
    }

    /** Acts can be done at any time: one that changes nothing counts, and moves and tells nothing. */
    private void actsThatChangeNothing() {
        for (Scene scene : Scene.all()) {
            JarRiddle riddle = scene.make();
            for (int to = 0; to < riddle.jars(); to++) {
                if (riddle.isFull(to)) {
                    dueUnchanged(scene, to);
                }
                if (riddle.isEmpty(to)) {
                    dueUnchanged(scene, 3 + to);
                }
                for (int from = 0; from < riddle.jars(); from++) {
                    if (from != to && (riddle.isFull(to) || riddle.isEmpty(from))) {
                        dueUnchanged(scene, 6 + 3 * from + to);
                    }
                }
            }
        }
    }

    private void dueUnchanged(Scene scene, int act) {
        JarRiddle riddle = scene.make();
        List<String> before = Answers.of(riddle);
        int actsBefore = riddle.acts();
        doAct(riddle, act);
        String told = "the act " + act + ", which changes nothing, at " + scene.name();
        checks.due(told + ": acts()", riddle.acts(), actsBefore + 1);
        checks.dueSame(told, withoutActs(Answers.of(riddle)), withoutActs(before));
    }

    /** The digest has the number of acts in it. */
    private static List<String> withoutActs(List<String> answers) {
        return answers.stream().filter(a -> !a.startsWith("acts()") && !a.startsWith("digest()")).toList();
    }
}
