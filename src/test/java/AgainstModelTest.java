import java.util.function.Supplier;

/**
 * Long mixed runs of calls, right and wrong ones, on the class and on the model. The digest behind
 * each call compares all that the plain getters tell, and that a call that throws changes nothing.
 */
public final class AgainstModelTest {
    private static final int RUNS = 120;
    private static final int CALLS = 60;
    private static final String[] CALLED = {
        "layOut", "fill", "fill", "empty", "pour", "pour", "pour", "pour", "follow", "guess", "isThere",
        "leastActs", "leastActsIn", "nextAct", "nextAct", "statesAway", "mayBe", "leftAtMost", "bestPour",
        "meanAmount",
    };

    private long seed = 20261119;
    private final Checks checks = new Checks();

    public static void main(String[] args) {
        AgainstModelTest test = new AgainstModelTest();
        for (int run = 0; run < RUNS; run++) {
            test.run(run);
        }
        test.longestRun();
        test.checks.end("AgainstModelTest");
    }

    /** Numbers that look random and are the same each time. */
    private int number(int below) {
        seed = seed * 6364136223846793005L + 1442695040888963407L;
        return (int) ((seed >>> 33) % below);
    }

    private void run(int run) {
        JarRiddle riddle = new JarRiddle();
        Model model = new Model();
        int third = number(3) == 0 ? 0 : 1 + number(9);
        same(run, riddle, model, "layOut", new int[] {1 + number(9), 1 + number(9), third});
        for (int call = 0; call < CALLS; call++) {
            String name = CALLED[number(CALLED.length)];
            // Laying out anew too often would keep the runs from going far.
            if (!name.equals("layOut") || number(4) == 0) {
                same(run, riddle, model, name, arguments(name));
                same(run, riddle, model, "digest", new int[3]);
            }
        }
    }

    private int[] arguments(String call) {
        boolean jarFirst = !call.equals("layOut") && !call.equals("follow") && !call.equals("isThere")
            && !call.equals("leastActs") && !call.equals("nextAct") && !call.equals("statesAway");
        boolean jarNext = call.equals("pour") || call.equals("leftAtMost");
        int[] arguments = {jarFirst ? jar() : amount(), jarNext ? jar() : amount(), amount()};
        if (call.equals("follow") && number(2) == 0) {
            arguments[1] = number(60);
        }
        return arguments;
    }

    private int jar() {
        return number(30) == 0 ? extreme() : number(20) == 0 ? number(6) - 2 : number(3);
    }

    private int amount() {
        return number(30) == 0 ? extreme() : number(20) == 0 ? number(14) - 2 : number(10);
    }

    private int extreme() {
        int[] extremes = {Integer.MIN_VALUE, Integer.MAX_VALUE, -1, 10, 51, 1 << 30};
        return extremes[number(extremes.length)];
    }

    private void same(int run, JarRiddle riddle, Model model, String call, int[] with) {
        String told = "run " + run + ": " + call + "(" + with[0] + ", " + with[1] + ", " + with[2] + ")";
        checks.due(told, outcome(() -> answer(riddle, call, with)),
            outcome(() -> model.answer(call, with[0], with[1], with[2])));
    }

    private static Object outcome(Supplier<Object> asked) {
        try {
            return asked.get();
        } catch (IndexOutOfBoundsException | IllegalArgumentException | IllegalStateException e) {
            return e.getClass().getName();
        }
    }

    private static Object answer(JarRiddle riddle, String call, int[] with) {
        switch (call) {
            case "layOut": return (long) riddle.layOut(with[0], with[1], with[2]);
            case "fill": return (long) riddle.fill(with[0]);
            case "empty": return (long) riddle.empty(with[0]);
            case "pour": return (long) riddle.pour(with[0], with[1]);
            case "follow": return (long) riddle.follow(with[0], with[1]);
            case "guess": return riddle.guess(with[0], with[1]) ? 1L : 0L;
            case "isThere": return riddle.isThere(with[0]) ? 1L : 0L;
            case "leastActs": return (long) riddle.leastActs(with[0]);
            case "leastActsIn": return (long) riddle.leastActsIn(with[0], with[1]);
            case "nextAct": return (long) riddle.nextAct(with[0]);
            case "statesAway": return (long) riddle.statesAway(with[0]);
            case "mayBe": return riddle.mayBe(with[0], with[1]) ? 1L : 0L;
            case "leftAtMost": return (long) riddle.leftAtMost(with[0], with[1]);
            case "bestPour": return (long) riddle.bestPour();
            case "meanAmount": return riddle.meanAmount();
            case "digest": return riddle.digest();
            default: throw new AssertionError(call);
        }
    }

    /** 512 calls, nearly all of them dear: they have to go through, and the sums to add up. */
    private void longestRun() {
        JarRiddle riddle = new JarRiddle();
        riddle.layOut(9, 8, 0);
        int done = 0;
        for (int call = 0; call < 507; call++) {
            done += riddle.follow(call % 2 == 0 ? 4 : 5, 50);
        }
        checks.due("acts()", riddle.acts(), done);
        checks.due("heldInAll()", riddle.heldInAll(), riddle.takenInAll() - riddle.spilledInAll());
    }
}
