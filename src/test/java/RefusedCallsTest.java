import java.util.function.Function;

/**
 * Every "Throws" of the document, at several jars: the first values below and above those that are
 * taken, and the farthest ones; which exception comes first; and that a refused call changes
 * nothing. That all values between are taken stands behind the refused ones of each call.
 */
public final class RefusedCallsTest {
    private static final int LEAST = Integer.MIN_VALUE;
    private static final int GREATEST = Integer.MAX_VALUE;
    private static final int[] NO_JAR_OF_TWO = {LEAST, -1, 2, 3, GREATEST};
    private static final int[] NO_JAR_OF_THREE = {LEAST, -1, 3, 4, GREATEST};
    private static final int[] NO_AMOUNT = {LEAST, -1, 10, GREATEST};
    private static final int[] NO_VOLUME = {LEAST, -1, 0, 10, GREATEST};
    private static final int[] NO_ACTS_TO_DO = {LEAST, -1, 0, 51, GREATEST};
    private static final int[] NO_ACTS_AWAY = {LEAST, -1, 51, GREATEST};

    private final Checks checks;
    private final Scene scene;
    private final int jars;
    private final int[] noJars;

    private RefusedCallsTest(Checks checks, Scene scene) {
        this.checks = checks;
        this.scene = scene;
        jars = scene.jars();
        noJars = jars == 2 ? NO_JAR_OF_TWO : NO_JAR_OF_THREE;
    }

    public static void main(String[] args) {
        Checks checks = new Checks();
        for (Scene scene : Scene.all()) {
            RefusedCallsTest test = new RefusedCallsTest(checks, scene);
            test.promise2();
            test.ofOneJar();
            test.ofTwoJars("pour", (x, y) -> r -> r.pour(x, y));
            test.ofTwoJars("leftAtMost", (x, y) -> r -> r.leftAtMost(x, y));
            test.promise6();
            test.ofAnAmount();
            test.promise19();
            test.promise20();
            test.promise23();
            test.promise26();
            test.promise28();
        }
        checks.end("RefusedCallsTest");
    }

    /** A call of the face with one argument, or with two. */
    private interface WithOne {
        Function<JarRiddle, Object> with(int x);
    }

    private interface WithTwo {
        Function<JarRiddle, Object> with(int x, int y);
    }

    private void dueIndex(String call, Function<JarRiddle, Object> asked) {
        checks.dueThrow(call, scene, asked, IndexOutOfBoundsException.class);
    }

    private void dueArgument(String call, Function<JarRiddle, Object> asked) {
        checks.dueThrow(call, scene, asked, IllegalArgumentException.class);
    }

    private void dueState(String call, Function<JarRiddle, Object> asked) {
        checks.dueThrow(call, scene, asked, IllegalStateException.class);
    }

    private void dueTaken(String call, Function<JarRiddle, Object> asked) {
        String answer = Answers.answer(scene.make(), asked);
        checks.due(scene.name() + ": " + call + ", " + answer + ": throws", answer.contains("Exception"), false);
    }

    private static String told(String call, int x, int y) {
        return call + "(" + x + ", " + y + ")";
    }

    /** a or b is not 1 to 9, or c is not 0 to 9. */
    private void promise2() {
        for (int wrong : NO_VOLUME) {
            dueLayOut(wrong, 1, 0);
            dueLayOut(wrong, 9, 9);
            dueLayOut(1, wrong, 0);
            dueLayOut(9, wrong, 9);
            dueLayOut(wrong, wrong, wrong);
            if (wrong != 0) {
                dueLayOut(1, 1, wrong);
                dueLayOut(9, 9, wrong);
            }
        }
        for (int a = 1; a <= 9; a++) {
            for (int c = 0; c <= 9; c++) {
                int first = a;
                int third = c;
                dueTaken("layOut(" + a + ", 1, " + c + ")", r -> r.layOut(first, 1, third));
                dueTaken("layOut(9, " + a + ", " + c + ")", r -> r.layOut(9, first, third));
            }
        }
    }

    private void dueLayOut(int a, int b, int c) {
        dueArgument("layOut(" + a + ", " + b + ", " + c + ")", r -> r.layOut(a, b, c));
    }

    private void ofOneJar() {
        ofOneJar("fill", x -> r -> r.fill(x));
        ofOneJar("empty", x -> r -> r.empty(x));
        ofOneJar("volumeOf", x -> r -> r.volumeOf(x));
        ofOneJar("amountOf", x -> r -> r.amountOf(x));
        ofOneJar("isEmpty", x -> r -> r.isEmpty(x));
        ofOneJar("isFull", x -> r -> r.isFull(x));
        ofOneJar("isKnown", x -> r -> r.isKnown(x));
    }

    /** There is no such jar: no third one of two, no fourth one ever. */
    private void ofOneJar(String call, WithOne asked) {
        for (int wrong : noJars) {
            dueIndex(call + "(" + wrong + ")", asked.with(wrong));
        }
        for (int jar = 0; jar < jars; jar++) {
            dueTaken(call + "(" + jar + ")", asked.with(jar));
        }
    }

    /** There is no such jar, be it one or both, and be both the same; both are the same. */
    private void ofTwoJars(String call, WithTwo asked) {
        for (int wrong : noJars) {
            for (int jar = 0; jar < jars; jar++) {
                dueIndex(told(call, wrong, jar), asked.with(wrong, jar));
                dueIndex(told(call, jar, wrong), asked.with(jar, wrong));
            }
            dueIndex(told(call, wrong, wrong), asked.with(wrong, wrong));
            dueIndex(told(call, wrong, -1), asked.with(wrong, -1));
        }
        for (int from = 0; from < jars; from++) {
            dueArgument(told(call, from, from), asked.with(from, from));
            for (int to = 0; to < jars; to++) {
                if (from != to) {
                    dueTaken(told(call, from, to), asked.with(from, to));
                }
            }
        }
    }

    /** The amount is not 0 to 9, or the acts are not 1 to 50; then: it cannot be had. */
    private void promise6() {
        for (int wrong : NO_AMOUNT) {
            dueFollowArgument(wrong, 1);
            dueFollowArgument(wrong, 50);
            dueFollowArgument(wrong, 0);
        }
        for (int amount = 0; amount <= 9; amount++) {
            for (int wrong : NO_ACTS_TO_DO) {
                dueFollowArgument(amount, wrong);
            }
            int sought = amount;
            if (scene.canBeHad(amount)) {
                for (int acts = 1; acts <= 50; acts++) {
                    int most = acts;
                    dueTaken(told("follow", amount, acts), r -> r.follow(sought, most));
                }
            } else {
                dueState(told("follow", amount, 1), r -> r.follow(sought, 1));
                dueState(told("follow", amount, 50), r -> r.follow(sought, 50));
            }
        }
    }

    private void dueFollowArgument(int amount, int acts) {
        dueArgument(told("follow", amount, acts), r -> r.follow(amount, acts));
    }

    private void ofAnAmount() {
        for (int wrong : NO_AMOUNT) {
            dueArgument("isThere(" + wrong + ")", r -> r.isThere(wrong));
            dueArgument("leastActs(" + wrong + ")", r -> r.leastActs(wrong));
        }
        for (int i = 0; i <= 9; i++) {
            int amount = i;
            dueTaken("isThere(" + amount + ")", r -> r.isThere(amount));
            dueTaken("leastActs(" + amount + ")", r -> r.leastActs(amount));
        }
    }

    private void promise19() {
        for (int wrong : noJars) {
            dueIndex(told("leastActsIn", wrong, 0), r -> r.leastActsIn(wrong, 0));
            dueIndex(told("leastActsIn", wrong, 9), r -> r.leastActsIn(wrong, 9));
            for (int amount : NO_AMOUNT) {
                dueIndex(told("leastActsIn", wrong, amount), r -> r.leastActsIn(wrong, amount));
            }
        }
        for (int i = 0; i < jars; i++) {
            int jar = i;
            for (int wrong : NO_AMOUNT) {
                dueArgument(told("leastActsIn", jar, wrong), r -> r.leastActsIn(jar, wrong));
            }
            for (int j = 0; j <= 9; j++) {
                int amount = j;
                dueTaken(told("leastActsIn", jar, amount), r -> r.leastActsIn(jar, amount));
            }
        }
    }

    /** The amount is not 0 to 9; some jar holds it now, or it cannot be had. */
    private void promise20() {
        for (int wrong : NO_AMOUNT) {
            dueArgument("nextAct(" + wrong + ")", r -> r.nextAct(wrong));
        }
        for (int i = 0; i <= 9; i++) {
            int amount = i;
            if (scene.make().isThere(amount) || !scene.canBeHad(amount)) {
                dueState("nextAct(" + amount + ")", r -> r.nextAct(amount));
            } else {
                dueTaken("nextAct(" + amount + ")", r -> r.nextAct(amount));
            }
        }
    }

    private void promise23() {
        for (int wrong : NO_ACTS_AWAY) {
            dueArgument("statesAway(" + wrong + ")", r -> r.statesAway(wrong));
        }
        for (int i = 0; i <= 50; i++) {
            int acts = i;
            dueTaken("statesAway(" + acts + ")", r -> r.statesAway(acts));
        }
    }

    /** There is no such jar, whatever the volume is; the volume is not 1 to 9. */
    private void ofAVolume(String call, WithTwo asked) {
        for (int wrong : noJars) {
            dueIndex(told(call, wrong, 1), asked.with(wrong, 1));
            dueIndex(told(call, wrong, 9), asked.with(wrong, 9));
            for (int volume : NO_VOLUME) {
                dueIndex(told(call, wrong, volume), asked.with(wrong, volume));
            }
        }
        for (int jar = 0; jar < jars; jar++) {
            for (int wrong : NO_VOLUME) {
                dueArgument(told(call, jar, wrong), asked.with(jar, wrong));
            }
        }
    }

    /** A volume is taken here also if the jar has it by no candidate. */
    private void promise26() {
        ofAVolume("mayBe", (x, y) -> r -> r.mayBe(x, y));
        for (int i = 0; i < jars; i++) {
            int jar = i;
            for (int j = 1; j <= 9; j++) {
                int volume = j;
                dueTaken(told("mayBe", jar, volume), r -> r.mayBe(jar, volume));
            }
        }
    }

    /** The last thing that is refused: the jar has this volume by no candidate. */
    private void promise28() {
        ofAVolume("guess", (x, y) -> r -> r.guess(x, y));
        for (int i = 0; i < jars; i++) {
            int jar = i;
            for (int j = 1; j <= 9; j++) {
                int volume = j;
                if (scene.make().mayBe(jar, volume)) {
                    dueTaken(told("guess", jar, volume), r -> r.guess(jar, volume));
                } else {
                    dueState(told("guess", jar, volume), r -> r.guess(jar, volume));
                }
            }
        }
    }
}
