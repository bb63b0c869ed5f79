import java.util.ArrayList;
import java.util.Collections;
import java.util.List;

/**
 * What the document tells as a question changes nothing, whatever is asked before and behind it:
 * promises 7 to 27 and 29 to 34, and of leftAtMost() and bestPour() in so many words.
 */
public final class NothingChangedTest {
    private final Checks checks = new Checks();

    public static void main(String[] args) {
        NothingChangedTest test = new NothingChangedTest();
        for (Scene scene : Scene.all()) {
            test.askedTwice(scene);
            test.askedBackward(scene);
            test.askedAlone(scene);
        }
        test.checks.end("NothingChangedTest");
    }

    private void askedTwice(Scene scene) {
        JarRiddle riddle = scene.make();
        List<String> before = Answers.of(riddle);
        checks.dueSame(scene.name() + ", asked twice", Answers.of(riddle), before);
    }

    private void askedBackward(Scene scene) {
        JarRiddle riddle = scene.make();
        List<Answers.Question> questions = new ArrayList<>(Answers.questions(scene.jars()));
        Collections.reverse(questions);
        List<String> told = new ArrayList<>();
        for (Answers.Question question : questions) {
            told.add(question.call() + " = " + Answers.answer(riddle, question.asked()));
        }
        Collections.reverse(told);
        checks.dueSame(scene.name() + ", asked backward", told, Answers.of(scene.make()));
    }

    /** Each question, asked as the first of all. */
    private void askedAlone(Scene scene) {
        for (Answers.Question question : Answers.questions(scene.jars())) {
            String told = scene.name() + ": " + question.call();
            JarRiddle riddle = scene.make();
            Answers.answer(riddle, question.asked());
            checks.dueSame(told + " changes something", Answers.of(riddle), Answers.of(scene.make()));
            checks.dueNoTrace(told, scene, question.asked());
        }
    }
}
