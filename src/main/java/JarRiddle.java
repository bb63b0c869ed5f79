import java.util.Arrays;

/**
 * A merchant's riddle of jars: jars without marks are filled, emptied and poured into one another;
 * the object tells which amounts can be had in how few acts, and what a guesser who sees only
 * which jars are empty and which are full can know of their volumes.
 */
public final class JarRiddle {
    private static final int MOST_JARS = 3;
    private static final int MOST_VOLUME = 9;
    private static final int MOST_ACTS = 50;

    /** Stands for: no act, no state, no way, no candidate any more. */
    private static final int NONE = -1;

    /** From these numbers on, acts are emptyings, pours, and no acts any more. */
    private static final int EMPTYING = 3;
    private static final int POURING = 6;
    private static final int END_OF_ACTS = 15;

    /** What three jars hold is written as one number of three decimal digits. */
    private static final int STATES = 1000;

    /** Rows of volumes: 9 * 9 of them for two jars, 9 * 9 * 9 for three. */
    private static final int ROWS_OF_TWO = 81;
    private static final int ROWS_OF_THREE = 729;

    /** Two bits for each of three jars: is it empty, is it full. */
    private static final int LOOKS = 64;

    private final Row row = new Row();
    private final Ways ways = new Ways();
    private final Guesser guesser = new Guesser();
    private int actsDone;
    private int poured;
    private int spilled;
    private int taken;
    private int guessesMade;
    private int guessesWrong;

    public JarRiddle() {
        begin(1, 1, 0);
    }

    // ---- jars and acts

    public int layOut(int a, int b, int c) throws IllegalArgumentException {
        if (!isVolume(a) || !isVolume(b) || c != 0 && !isVolume(c)) {
            throw new IllegalArgumentException("a volume is 1 to 9, and that of the jar 2 may be 0");
        }
        begin(a, b, c);
        return row.count();
    }

    public int fill(int jar) throws IndexOutOfBoundsException {
        checkJar(jar);
        return doAct(jar);
    }

    public int empty(int jar) throws IndexOutOfBoundsException {
        checkJar(jar);
        return doAct(EMPTYING + jar);
    }

    public int pour(int from, int to) throws IndexOutOfBoundsException, IllegalArgumentException {
        checkPour(from, to);
        return doAct(pourNumber(from, to));
    }

    public int follow(int amount, int acts) throws IllegalArgumentException, IllegalStateException {
        checkAmount(amount);
        checkActs(acts, 1);
        int least = waysFromHere().leastActsTo(amount);
        if (least == NONE) {
            throw new IllegalStateException("the amount cannot be had");
        }
        int due = Math.min(least, acts);
        for (int done = 0; done < due; done++) {
            doAct(waysFromHere().firstActTo(amount));
        }
        return due;
    }

    // ---- what jars are

    public int jars() {
        return row.count();
    }

    public int volumeOf(int jar) throws IndexOutOfBoundsException {
        checkJar(jar);
        return row.volumeAt(jar);
    }

    public int amountOf(int jar) throws IndexOutOfBoundsException {
        checkJar(jar);
        return row.amountAt(jar);
    }

    public boolean isEmpty(int jar) throws IndexOutOfBoundsException {
        checkJar(jar);
        return row.emptyAt(jar);
    }

    public boolean isFull(int jar) throws IndexOutOfBoundsException {
        checkJar(jar);
        return row.fullAt(jar);
    }

    public int heldInAll() {
        return row.amountAt(0) + row.amountAt(1) + row.amountAt(2);
    }

    public int acts() {
        return actsDone;
    }

    public int pouredInAll() {
        return poured;
    }

    public int spilledInAll() {
        return spilled;
    }

    public int takenInAll() {
        return taken;
    }

    // ---- what can be had

    public boolean isThere(int amount) throws IllegalArgumentException {
        checkAmount(amount);
        return row.holdsSomewhere(amount);
    }

    public int leastActs(int amount) throws IllegalArgumentException {
        checkAmount(amount);
        return waysFromHere().leastActsTo(amount);
    }

    public int leastActsIn(int jar, int amount) throws IndexOutOfBoundsException, IllegalArgumentException {
        checkJar(jar);
        checkAmount(amount);
        return waysFromHere().leastActsWith(jar, amount);
    }

    public int nextAct(int amount) throws IllegalArgumentException, IllegalStateException {
        checkAmount(amount);
        if (waysFromHere().leastActsTo(amount) <= 0) {
            throw new IllegalStateException("the amount is there now, or cannot be had");
        }
        return waysFromHere().firstActTo(amount);
    }

    public int amountsToHave() {
        Ways from = waysFromHere();
        int had = 0;
        for (int amount = 0; amount <= MOST_VOLUME; amount++) {
            if (from.leastActsTo(amount) != NONE) {
                had++;
            }
        }
        return had;
    }

    public int statesToReach() {
        return waysFromHere().statesReached();
    }

    public int statesAway(int acts) throws IllegalArgumentException {
        checkActs(acts, 0);
        return waysFromHere().statesAt(acts);
    }

    public int farthest() {
        return waysFromHere().greatestDistance();
    }

    // ---- the guesser

    public int candidates() {
        return guesser.candidatesLeft();
    }

    public boolean mayBe(int jar, int volume) throws IndexOutOfBoundsException, IllegalArgumentException {
        checkJar(jar);
        checkVolume(volume);
        return isAmong(guesser.volumesFor(jar), volume);
    }

    public boolean isKnown(int jar) throws IndexOutOfBoundsException {
        checkJar(jar);
        return isOne(guesser.volumesFor(jar));
    }

    public boolean guess(int jar, int volume)
            throws IndexOutOfBoundsException, IllegalArgumentException, IllegalStateException {
        checkJar(jar);
        checkVolume(volume);
        if (!isAmong(guesser.volumesFor(jar), volume)) {
            throw new IllegalStateException("the jar has this volume by no candidate");
        }
        boolean right = row.volumeAt(jar) == volume;
        guesser.learn(jar, volume, right);
        guessesMade++;
        if (!right) {
            guessesWrong++;
        }
        return right;
    }

    public int guesses() {
        return guessesMade;
    }

    public int wrongGuesses() {
        return guessesWrong;
    }

    public int leftAtMost(int from, int to) throws IndexOutOfBoundsException, IllegalArgumentException {
        checkPour(from, to);
        return guesser.mostLeftBehind(pourNumber(from, to));
    }

    public int bestPour() {
        int best = NONE;
        int fewest = guesser.candidatesLeft();
        for (int act = POURING; act < END_OF_ACTS; act++) {
            if (row.allows(act)) {
                int left = guesser.mostLeftBehind(act);
                if (left < fewest) {
                    fewest = left;
                    best = act;
                }
            }
        }
        return best;
    }

    public double meanAmount() {
        return row.count() == 2 ? heldInAll() / 2.0 : heldInAll() / 3.0;
    }

    public long digest() {
        long d = 1877;
        d = d * 31 + jars();
        d = d * 31 + heldInAll();
        d = d * 31 + acts();
        d = d * 31 + pouredInAll();
        d = d * 31 + spilledInAll();
        d = d * 31 + takenInAll();
        d = d * 31 + candidates();
        d = d * 31 + guesses();
        d = d * 31 + wrongGuesses();
        d = d * 31 + amountsToHave();
        d = d * 31 + statesToReach();
        d = d * 31 + farthest();
        for (int jar = 0; jar < row.count(); jar++) {
            d = digestOfJar(d, jar);
        }
        for (int amount = 0; amount <= MOST_VOLUME; amount++) {
            d = d * 31 + waysFromHere().leastActsTo(amount);
        }
        return d;
    }

    private long digestOfJar(long before, int jar) {
        int volumes = guesser.volumesFor(jar);
        long d = before;
        d = d * 31 + row.volumeAt(jar);
        d = d * 31 + row.amountAt(jar);
        d = d * 31 + oneIf(row.emptyAt(jar));
        d = d * 31 + oneIf(row.fullAt(jar));
        d = d * 31 + oneIf(isOne(volumes));
        for (int volume = 1; volume <= MOST_VOLUME; volume++) {
            d = d * 31 + oneIf(isAmong(volumes, volume));
        }
        return d;
    }

    private void begin(int a, int b, int c) {
        row.layEmpty(a, b, c);
        ways.forget();
        guesser.beginWith(row.count());
        actsDone = 0;
        poured = 0;
        spilled = 0;
        taken = 0;
        guessesMade = 0;
        guessesWrong = 0;
    }

    private int doAct(int act) {
        int moved = row.change(act);
        actsDone++;
        if (act < EMPTYING) {
            taken += moved;
        } else if (act < POURING) {
            spilled += moved;
        } else {
            poured += moved;
        }
        ways.forget();
        guesser.see(act, row.look());
        return moved;
    }

    private Ways waysFromHere() {
        ways.explore(row);
        return ways;
    }

    private void checkJar(int jar) {
        if (!row.has(jar)) {
            throw new IndexOutOfBoundsException("there is no such jar");
        }
    }

    private void checkPour(int from, int to) {
        checkJar(from);
        checkJar(to);
        if (from == to) {
            throw new IllegalArgumentException("both jars are the same");
        }
    }

    private static void checkAmount(int amount) {
        if (amount < 0 || amount > MOST_VOLUME) {
            throw new IllegalArgumentException("an amount is 0 to 9");
        }
    }

    private static void checkVolume(int volume) {
        if (!isVolume(volume)) {
            throw new IllegalArgumentException("a volume is 1 to 9");
        }
    }

    private static void checkActs(int acts, int fewest) {
        if (acts < fewest || acts > MOST_ACTS) {
            throw new IllegalArgumentException("so many acts cannot be asked for");
        }
    }

    private static boolean isVolume(int volume) {
        return volume >= 1 && volume <= MOST_VOLUME;
    }

    private static int pourNumber(int from, int to) {
        return POURING + MOST_JARS * from + to;
    }

    private static boolean isAmong(int volumes, int volume) {
        return (volumes >> volume & 1) == 1;
    }

    private static boolean isOne(int volumes) {
        return Integer.bitCount(volumes) == 1;
    }

    private static int oneIf(boolean so) {
        return so ? 1 : 0;
    }

    /** Two or three jars and what they hold; a third one that is not there has the volume 0. */
    private static final class Row {
        private final int[] volume = new int[MOST_JARS];
        private final int[] amount = new int[MOST_JARS];

        void layEmpty(int a, int b, int c) {
            volume[0] = a;
            volume[1] = b;
            volume[2] = c;
            Arrays.fill(amount, 0);
        }

        int count() {
            return volume[2] == 0 ? 2 : 3;
        }

        boolean has(int jar) {
            return jar >= 0 && jar < volume.length && volume[jar] > 0;
        }

        int volumeAt(int jar) {
            return jar >= 0 && jar < volume.length ? volume[jar] : 0;
        }

        int amountAt(int jar) {
            return jar >= 0 && jar < amount.length ? amount[jar] : 0;
        }

        boolean emptyAt(int jar) {
            return amountAt(jar) == 0;
        }

        boolean fullAt(int jar) {
            return amountAt(jar) == volumeAt(jar);
        }

        boolean holdsSomewhere(int sought) {
            for (int jar = 0; jar < count(); jar++) {
                if (amountAt(jar) == sought) {
                    return true;
                }
            }
            return false;
        }

        int state() {
            return amount[0] + 10 * amount[1] + 100 * amount[2];
        }

        void hold(int state) {
            amount[0] = state % 10;
            amount[1] = state / 10 % 10;
            amount[2] = state / 100 % 10;
        }

        /** What the guesser sees; a jar that is not there looks the same by all candidates. */
        int look() {
            int seen = 0;
            for (int jar = 0; jar < MOST_JARS; jar++) {
                seen = seen * 4 + oneIf(emptyAt(jar)) * 2 + oneIf(fullAt(jar));
            }
            return seen;
        }

        boolean allows(int act) {
            if (act < EMPTYING) {
                return has(act);
            }
            if (act < POURING) {
                return has(act - EMPTYING);
            }
            int from = (act - POURING) / MOST_JARS;
            int to = (act - POURING) % MOST_JARS;
            return has(from) && has(to) && from != to;
        }

        /** Does an act and tells how much it moves. */
        int change(int act) {
            if (act < EMPTYING) {
                return add(act, volumeAt(act) - amountAt(act));
            }
            if (act < POURING) {
                int jar = act - EMPTYING;
                return -add(jar, -amountAt(jar));
            }
            int from = (act - POURING) / MOST_JARS;
            int to = (act - POURING) % MOST_JARS;
            int moved = Math.min(amountAt(from), volumeAt(to) - amountAt(to));
            add(from, -moved);
            return add(to, moved);
        }

        private int add(int jar, int more) {
            if (jar >= 0 && jar < amount.length) {
                amount[jar] += more;
            }
            return more;
        }
    }

    /** The shortest ways from one state to all that can be reached from it. */
    private static final class Ways {
        private final Row step = new Row();
        private final int[] distance = new int[STATES];
        private final int[] firstAct = new int[STATES];
        /**
         * The states that are reached, nearer ones first, and of those at the same distance the ones
         * with a smaller first act first: as each state spreads by smaller acts first, and states
         * spread in this order, a state is reached first by the smallest first act that it can have.
         */
        private final int[] order = new int[STATES];
        private int reached;

        void forget() {
            reached = 0;
        }

        /** Goes through all states from this one, unless that is done since the last forget(). */
        void explore(Row from) {
            if (reached > 0) {
                return;
            }
            Arrays.fill(distance, NONE);
            step.layEmpty(from.volumeAt(0), from.volumeAt(1), from.volumeAt(2));
            reach(from.state(), 0, NONE);
            for (int next = 0; next < reached && next < STATES; next++) {
                spread(stateAt(next));
            }
        }

        private void spread(int state) {
            int away = distanceOf(state);
            for (int act = 0; act < END_OF_ACTS; act++) {
                if (step.allows(act)) {
                    step.hold(state);
                    step.change(act);
                    reach(step.state(), away + 1, away == 0 ? act : firstActOf(state));
                }
            }
        }

        private void reach(int state, int away, int first) {
            if (state < 0 || state >= STATES || reached < 0 || reached >= STATES) {
                return;
            }
            if (distance[state] == NONE) {
                distance[state] = away;
                firstAct[state] = first;
                order[reached] = state;
                reached++;
            }
        }

        private int stateAt(int place) {
            return place >= 0 && place < reached && place < STATES ? order[place] : NONE;
        }

        private int distanceOf(int state) {
            return state >= 0 && state < STATES ? distance[state] : NONE;
        }

        private int firstActOf(int state) {
            return state >= 0 && state < STATES ? firstAct[state] : NONE;
        }

        /** The first state in the order by which some jar holds the amount. */
        private int nearestWith(int amount) {
            for (int place = 0; place < reached; place++) {
                step.hold(stateAt(place));
                if (step.holdsSomewhere(amount)) {
                    return stateAt(place);
                }
            }
            return NONE;
        }

        int leastActsTo(int amount) {
            return distanceOf(nearestWith(amount));
        }

        int leastActsWith(int jar, int amount) {
            for (int place = 0; place < reached; place++) {
                step.hold(stateAt(place));
                if (step.amountAt(jar) == amount) {
                    return distanceOf(stateAt(place));
                }
            }
            return NONE;
        }

        /** The smallest act with which a shortest way to the amount begins. */
        int firstActTo(int amount) {
            return firstActOf(nearestWith(amount));
        }

        int statesReached() {
            return reached;
        }

        int statesAt(int away) {
            int there = 0;
            for (int place = 0; place < reached; place++) {
                if (distanceOf(stateAt(place)) == away) {
                    there++;
                }
            }
            return there;
        }

        int greatestDistance() {
            return distanceOf(stateAt(reached - 1));
        }
    }

    /** The candidates: which rows of volumes are left, and what the jars would hold by each. */
    private static final class Guesser {
        private final Row imagined = new Row();
        /** What would be held by each row of volumes, NONE if it is no candidate any more. */
        private final int[] held = new int[ROWS_OF_THREE];
        private final int[] seenBy = new int[LOOKS];
        private int jarCount;
        private int left;

        void beginWith(int jars) {
            jarCount = jars;
            left = jars == 2 ? ROWS_OF_TWO : ROWS_OF_THREE;
            for (int number = 0; number < held.length; number++) {
                held[number] = number < left ? 0 : NONE;
            }
        }

        int candidatesLeft() {
            return left;
        }

        private boolean isCandidate(int number) {
            return number >= 0 && number < held.length && held[number] != NONE;
        }

        /** Lays out the jars of a candidate with what they would hold. */
        private void imagine(int number) {
            if (isCandidate(number)) {
                int third = jarCount == 2 ? 0 : number / 81 + 1;
                imagined.layEmpty(number % 9 + 1, number / 9 % 9 + 1, third);
                imagined.hold(held[number]);
            }
        }

        private void drop(int number) {
            if (isCandidate(number)) {
                held[number] = NONE;
                left--;
            }
        }

        private void keep(int number, int state) {
            if (isCandidate(number)) {
                held[number] = state;
            }
        }

        /** An act is done, and the jars look so behind it. */
        void see(int act, int look) {
            for (int number = 0; number < ROWS_OF_THREE; number++) {
                if (isCandidate(number)) {
                    imagine(number);
                    imagined.change(act);
                    if (imagined.look() == look) {
                        keep(number, imagined.state());
                    } else {
                        drop(number);
                    }
                }
            }
        }

        /** It is known now that the jar has this volume, or that it has not. */
        void learn(int jar, int volume, boolean right) {
            for (int number = 0; number < ROWS_OF_THREE; number++) {
                if (isCandidate(number)) {
                    imagine(number);
                    boolean has = imagined.volumeAt(jar) == volume;
                    if (has != right) {
                        drop(number);
                    }
                }
            }
        }

        /** The volumes that the jar may have, a bit for each. */
        int volumesFor(int jar) {
            int volumes = 0;
            for (int number = 0; number < ROWS_OF_THREE; number++) {
                if (isCandidate(number)) {
                    imagine(number);
                    volumes |= 1 << imagined.volumeAt(jar);
                }
            }
            return volumes;
        }

        /** How many candidates are left behind an act at the most, whatever is seen then. */
        int mostLeftBehind(int act) {
            Arrays.fill(seenBy, 0);
            int most = 0;
            for (int number = 0; number < ROWS_OF_THREE; number++) {
                if (isCandidate(number)) {
                    imagine(number);
                    imagined.change(act);
                    most = Math.max(most, tally(imagined.look()));
                }
            }
            return most;
        }

        private int tally(int look) {
            if (look < 0 || look >= LOOKS) {
                return 0;
            }
            seenBy[look]++;
            return seenBy[look];
        }
    }
}
