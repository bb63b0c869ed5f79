import java.util.ArrayList;
import java.util.HashMap;
import java.util.LinkedHashMap;
import java.util.List;
import java.util.Map;

/**
 * The document told a second time, in another way than the class does it and with no care for
 * speed: candidates are found by doing all acts again from the empty jars, ways by spreading out
 * from each state anew.
 */
final class Model {
    private record Fact(int jar, int volume, boolean right) {
    }

    private int[] volumes;
    private List<Integer> held;
    private final List<Integer> actsDone = new ArrayList<>();
    private final List<String> looks = new ArrayList<>();
    private final List<Fact> facts = new ArrayList<>();
    private final int[] moved = new int[3];
    private List<int[]> candidates;

    Model() {
        begin(1, 1, 0);
    }

    private void begin(int a, int b, int c) {
        volumes = c == 0 ? new int[] {a, b} : new int[] {a, b, c};
        held = emptied();
        actsDone.clear();
        looks.clear();
        facts.clear();
        moved[0] = 0;
        moved[1] = 0;
        moved[2] = 0;
        candidates = null;
    }

    private List<Integer> emptied() {
        return volumes.length == 2 ? List.of(0, 0) : List.of(0, 0, 0);
    }

    /** The acts that there are, in the order of their numbers. */
    private List<Integer> allActs() {
        List<Integer> all = new ArrayList<>();
        int n = volumes.length;
        for (int act = 0; act <= 14; act++) {
            boolean there = act < 3 ? act < n
                : act < 6 ? act - 3 < n
                : (act - 6) / 3 < n && (act - 6) % 3 < n && (act - 6) / 3 != (act - 6) % 3;
            if (there) {
                all.add(act);
            }
        }
        return all;
    }

    private static List<Integer> behind(int act, List<Integer> before, int[] of) {
        List<Integer> after = new ArrayList<>(before);
        if (act < 3) {
            after.set(act, of[act]);
        } else if (act < 6) {
            after.set(act - 3, 0);
        } else {
            int from = (act - 6) / 3;
            int to = (act - 6) % 3;
            // Drop by drop, so that nothing is shared with the class's own way.
            while (after.get(from) > 0 && after.get(to) < of[to]) {
                after.set(from, after.get(from) - 1);
                after.set(to, after.get(to) + 1);
            }
        }
        return after;
    }

    private static String look(List<Integer> state, int[] of) {
        StringBuilder seen = new StringBuilder();
        for (int jar = 0; jar < of.length; jar++) {
            seen.append(state.get(jar) == 0 ? "e" : "-").append(state.get(jar) == of[jar] ? "f" : "-");
        }
        return seen.toString();
    }

    private long doAct(int act) {
        List<Integer> after = behind(act, held, volumes);
        int changed = 0;
        for (int jar = 0; jar < volumes.length; jar++) {
            changed += Math.abs(after.get(jar) - held.get(jar));
        }
        int kind = act < 3 ? 0 : act < 6 ? 1 : 2;
        int much = kind == 2 ? changed / 2 : changed;
        moved[kind] += much;
        held = after;
        actsDone.add(act);
        looks.add(look(held, volumes));
        candidates = null;
        return much;
    }

    /** Each state that can be reached, and how many acts away it is. */
    private Map<List<Integer>, Integer> distances(List<Integer> start) {
        Map<List<Integer>, Integer> found = new LinkedHashMap<>();
        found.put(start, 0);
        List<List<Integer>> border = List.of(start);
        for (int away = 1; !border.isEmpty(); away++) {
            List<List<Integer>> further = new ArrayList<>();
            for (List<Integer> state : border) {
                for (int act : allActs()) {
                    List<Integer> next = behind(act, state, volumes);
                    if (found.putIfAbsent(next, away) == null) {
                        further.add(next);
                    }
                }
            }
            border = further;
        }
        return found;
    }

    private int least(List<Integer> start, int amount) {
        int least = -1;
        for (Map.Entry<List<Integer>, Integer> entry : distances(start).entrySet()) {
            if (entry.getKey().contains(amount) && (least < 0 || entry.getValue() < least)) {
                least = entry.getValue();
            }
        }
        return least;
    }

    private int leastIn(int jar, int amount) {
        int least = -1;
        for (Map.Entry<List<Integer>, Integer> entry : distances(held).entrySet()) {
            if (entry.getKey().get(jar) == amount && (least < 0 || entry.getValue() < least)) {
                least = entry.getValue();
            }
        }
        return least;
    }

    /** The smallest act behind which the amount is one act nearer than now. */
    private int next(int amount) {
        int now = least(held, amount);
        for (int act : allActs()) {
            if (least(behind(act, held, volumes), amount) == now - 1) {
                return act;
            }
        }
        throw new AssertionError("no act leads nearer");
    }

    private List<Integer> heldBy(int[] of) {
        List<Integer> state = emptied();
        for (int act : actsDone) {
            state = behind(act, state, of);
        }
        return state;
    }

    private boolean fits(int[] of) {
        List<Integer> state = emptied();
        for (int i = 0; i < actsDone.size(); i++) {
            state = behind(actsDone.get(i), state, of);
            if (!look(state, of).equals(looks.get(i))) {
                return false;
            }
        }
        for (Fact fact : facts) {
            if ((of[fact.jar()] == fact.volume()) != fact.right()) {
                return false;
            }
        }
        return true;
    }

    private List<int[]> candidates() {
        if (candidates == null) {
            candidates = new ArrayList<>();
            for (int a = 1; a <= 9; a++) {
                for (int b = 1; b <= 9; b++) {
                    for (int c = volumes.length == 2 ? 9 : 1; c <= 9; c++) {
                        int[] of = volumes.length == 2 ? new int[] {a, b} : new int[] {a, b, c};
                        if (fits(of)) {
                            candidates.add(of);
                        }
                    }
                }
            }
        }
        return candidates;
    }

    private boolean mayBe(int jar, int volume) {
        return candidates().stream().anyMatch(of -> of[jar] == volume);
    }

    private boolean isKnown(int jar) {
        return candidates().stream().mapToInt(of -> of[jar]).distinct().count() == 1;
    }

    private int leftAtMost(int pour) {
        Map<String, Integer> seen = new HashMap<>();
        for (int[] of : candidates()) {
            seen.merge(look(behind(pour, heldBy(of), of), of), 1, Integer::sum);
        }
        return seen.values().stream().mapToInt(n -> n).max().orElseThrow();
    }

    private int bestPour() {
        int best = -1;
        for (int act : allActs()) {
            if (act >= 6 && leftAtMost(act) < (best < 0 ? candidates().size() : leftAtMost(best))) {
                best = act;
            }
        }
        return best;
    }

    private int follow(int amount, int acts) {
        int done = 0;
        while (done < acts && !held.contains(amount)) {
            doAct(next(amount));
            done++;
        }
        return done;
    }

    private boolean guess(int jar, int volume) {
        boolean right = volumes[jar] == volume;
        facts.add(new Fact(jar, volume, right));
        candidates = null;
        return right;
    }

    private long heldInAll() {
        return held.stream().mapToInt(n -> n).sum();
    }

    private long amountsToHave() {
        return distances(held).keySet().stream().flatMap(List::stream).distinct().count();
    }

    private long farthest() {
        return distances(held).values().stream().mapToInt(n -> n).max().orElseThrow();
    }

    private long statesAway(int acts) {
        return distances(held).values().stream().filter(n -> n == acts).count();
    }

    private long wrongGuesses() {
        return facts.stream().filter(fact -> !fact.right()).count();
    }

    private long digest() {
        List<Long> all = new ArrayList<>(List.of((long) volumes.length, heldInAll(), (long) actsDone.size()));
        all.addAll(List.of((long) moved[2], (long) moved[1], (long) moved[0], (long) candidates().size()));
        all.addAll(List.of((long) facts.size(), wrongGuesses(), amountsToHave()));
        all.addAll(List.of((long) distances(held).size(), farthest()));
        for (int jar = 0; jar < volumes.length; jar++) {
            all.addAll(List.of((long) volumes[jar], (long) held.get(jar)));
            all.addAll(List.of(one(held.get(jar) == 0), one(held.get(jar) == volumes[jar]), one(isKnown(jar))));
            for (int volume = 1; volume <= 9; volume++) {
                all.add(one(mayBe(jar, volume)));
            }
        }
        for (int amount = 0; amount <= 9; amount++) {
            all.add((long) least(held, amount));
        }
        long d = 1877;
        for (long x : all) {
            d = d * 31 + x;
        }
        return d;
    }

    private static long one(boolean so) {
        return so ? 1 : 0;
    }

    private void needJar(int jar) {
        if (jar < 0 || jar >= volumes.length) {
            throw new IndexOutOfBoundsException();
        }
    }

    private static void need(int x, int from, int to) {
        if (x < from || x > to) {
            throw new IllegalArgumentException();
        }
    }

    private static void needThat(boolean so) {
        if (!so) {
            throw new IllegalStateException();
        }
    }

    private int needPour(int from, int to) {
        needJar(from);
        needJar(to);
        if (from == to) {
            throw new IllegalArgumentException();
        }
        return 6 + 3 * from + to;
    }

    /** The due answer of a call; what is not named here in a call's arguments is left unread. */
    Object answer(String call, int x, int y, int z) {
        switch (call) {
            case "layOut":
                need(x, 1, 9);
                need(y, 1, 9);
                need(z, 0, 9);
                begin(x, y, z);
                return (long) volumes.length;
            case "fill":
                needJar(x);
                return doAct(x);
            case "empty":
                needJar(x);
                return doAct(3 + x);
            case "pour":
                return doAct(needPour(x, y));
            case "follow":
                need(x, 0, 9);
                need(y, 1, 50);
                needThat(least(held, x) >= 0);
                return (long) follow(x, y);
            case "guess":
                needJar(x);
                need(y, 1, 9);
                needThat(mayBe(x, y));
                return one(guess(x, y));
            default:
                return asked(call, x, y);
        }
    }

    private Object asked(String call, int x, int y) {
        switch (call) {
            case "isThere":
                need(x, 0, 9);
                return one(held.contains(x));
            case "leastActs":
                need(x, 0, 9);
                return (long) least(held, x);
            case "leastActsIn":
                needJar(x);
                need(y, 0, 9);
                return (long) leastIn(x, y);
            case "nextAct":
                need(x, 0, 9);
                needThat(least(held, x) > 0);
                return (long) next(x);
            case "statesAway":
                need(x, 0, 50);
                return statesAway(x);
            case "mayBe":
                needJar(x);
                need(y, 1, 9);
                return one(mayBe(x, y));
            case "leftAtMost":
                return (long) leftAtMost(needPour(x, y));
            case "bestPour":
                return (long) bestPour();
            case "meanAmount":
                return (double) heldInAll() / volumes.length;
            case "digest":
                return digest();
            default:
                throw new AssertionError(call);
        }
    }
}
