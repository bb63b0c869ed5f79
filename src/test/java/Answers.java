import java.util.ArrayList;
import java.util.List;
import java.util.function.Function;

/** Everything that can be asked of some jars: each call of the face that changes nothing. */
final class Answers {
    /** A call that changes nothing, as a text and as itself. */
    record Question(String call, Function<JarRiddle, Object> asked) {
    }

    private Answers() {
    }

    /** Some 170 questions, so that three rounds of them would be too many calls for one object. */
    static List<Question> questions(int jars) {
        List<Question> all = new ArrayList<>();
        askWithoutArguments(all);
        for (int jar = 0; jar < jars; jar++) {
            askOfJar(all, jar);
        }
        for (int from = 0; from < jars; from++) {
            for (int to = 0; to < jars; to++) {
                if (from != to) {
                    askOfPour(all, from, to);
                }
            }
        }
        for (int amount = 0; amount <= 9; amount++) {
            askOfAmount(all, amount);
        }
        for (int acts = 0; acts <= 50; acts++) {
            int away = acts;
            all.add(new Question("statesAway(" + acts + ")", r -> r.statesAway(away)));
        }
        return all;
    }

    /** The answers of all that can be asked, each behind its call. */
    static List<String> of(JarRiddle riddle) {
        List<String> told = new ArrayList<>();
        for (Question question : questions(riddle.jars())) {
            told.add(question.call() + " = " + answer(riddle, question.asked()));
        }
        return told;
    }

    /** What the call answers, or the name of what it throws. */
    static String answer(JarRiddle riddle, Function<JarRiddle, Object> asked) {
        try {
            return String.valueOf(asked.apply(riddle));
        } catch (RuntimeException e) {
            return e.getClass().getName();
        }
    }

    private static void askWithoutArguments(List<Question> all) {
        all.add(new Question("jars()", r -> r.jars()));
        all.add(new Question("heldInAll()", r -> r.heldInAll()));
        all.add(new Question("acts()", r -> r.acts()));
        all.add(new Question("pouredInAll()", r -> r.pouredInAll()));
        all.add(new Question("spilledInAll()", r -> r.spilledInAll()));
        all.add(new Question("takenInAll()", r -> r.takenInAll()));
        all.add(new Question("amountsToHave()", r -> r.amountsToHave()));
        all.add(new Question("statesToReach()", r -> r.statesToReach()));
        all.add(new Question("farthest()", r -> r.farthest()));
        all.add(new Question("candidates()", r -> r.candidates()));
        all.add(new Question("guesses()", r -> r.guesses()));
        all.add(new Question("wrongGuesses()", r -> r.wrongGuesses()));
        all.add(new Question("bestPour()", r -> r.bestPour()));
        all.add(new Question("meanAmount()", r -> r.meanAmount()));
        all.add(new Question("digest()", r -> r.digest()));
    }

    private static void askOfJar(List<Question> all, int jar) {
        all.add(new Question("volumeOf(" + jar + ")", r -> r.volumeOf(jar)));
        all.add(new Question("amountOf(" + jar + ")", r -> r.amountOf(jar)));
        all.add(new Question("isEmpty(" + jar + ")", r -> r.isEmpty(jar)));
        all.add(new Question("isFull(" + jar + ")", r -> r.isFull(jar)));
        all.add(new Question("isKnown(" + jar + ")", r -> r.isKnown(jar)));
        for (int i = 0; i <= 9; i++) {
            int amount = i;
            all.add(new Question("leastActsIn(" + jar + ", " + i + ")", r -> r.leastActsIn(jar, amount)));
        }
        for (int i = 1; i <= 9; i++) {
            int volume = i;
            all.add(new Question("mayBe(" + jar + ", " + i + ")", r -> r.mayBe(jar, volume)));
        }
    }

    private static void askOfPour(List<Question> all, int from, int to) {
        all.add(new Question("leftAtMost(" + from + ", " + to + ")", r -> r.leftAtMost(from, to)));
    }

    private static void askOfAmount(List<Question> all, int amount) {
        all.add(new Question("isThere(" + amount + ")", r -> r.isThere(amount)));
        all.add(new Question("leastActs(" + amount + ")", r -> r.leastActs(amount)));
        all.add(new Question("nextAct(" + amount + ")", r -> r.nextAct(amount)));
    }
}
