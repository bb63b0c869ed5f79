import java.util.List;
import java.util.function.Function;

/** Counts the checks of one test that fail, prints each, and ends the test. */
final class Checks {
    private int wrong;

    void due(String call, Object got, Object want) {
        if (!got.equals(want)) {
            wrong++;
            System.out.println(call + " answered " + got + ", due is " + want);
        }
    }

    /** Two objects, or one at two times, have to answer all that can be asked in the same way. */
    void dueSame(String when, List<String> got, List<String> want) {
        due(when + ": how many answers", got.size(), want.size());
        for (int i = 0; i < got.size() && i < want.size(); i++) {
            due(when, got.get(i), want.get(i));
        }
    }

    /** The call has to throw just this exception and to leave every answer as it was. */
    void dueThrow(String call, Scene scene, Function<JarRiddle, Object> asked, Class<?> want) {
        String told = scene.name() + ": " + call;
        JarRiddle riddle = scene.make();
        List<String> before = Answers.of(riddle);
        due(told, Answers.answer(riddle, asked), want.getName());
        dueSame(told + " is refused", Answers.of(riddle), before);
        dueNoTrace(told, scene, asked);
    }

    /** The call has to change nothing, not even what acts and guesses do later. */
    void dueNoTrace(String told, Scene scene, Function<JarRiddle, Object> asked) {
        JarRiddle riddle = scene.make();
        JarRiddle untouched = scene.make();
        Answers.answer(riddle, asked);
        goOn(riddle);
        goOn(untouched);
        dueSame(told + " has left a trace", Answers.of(riddle), Answers.of(untouched));
    }

    /** Acts and a guess that change something in nearly all jars. */
    private static void goOn(JarRiddle riddle) {
        int last = riddle.jars() - 1;
        riddle.empty(0);
        riddle.fill(last);
        riddle.pour(last, 0);
        riddle.empty(0);
        riddle.pour(last, 0);
        riddle.guess(1, riddle.volumeOf(1));
        riddle.follow(riddle.volumeOf(1), 2);
    }

    void end(String test) {
        System.out.println(test + (wrong == 0 ? ": all as due" : ": " + wrong + " wrong"));
        if (wrong != 0) {
            System.exit(1);
        }
    }
}
