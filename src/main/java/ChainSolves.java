/** Walks by chance over at most seven states, told in exact fractions. */
public final class ChainSolves {
    public static final int NONE = -1;

    private static final int OUTSIDE = -2;
    private static final int NOT_SO = -3;
    private static final int NO_ROOM = -4;
    private static final int ANSWERED = 1;

    private static final int MOST_STATES = 7;
    private static final int MOST_WEIGHT = 9;
    private static final int MOST_TOTAL = 12;
    private static final int MOST_REWARD = 100;
    private static final int MOST_STEPS = 4;

    private final Chain chain;
    private final Ways ways;
    private final Likeness likeness;
    private final FirstSteps firstSteps;
    private final Spread spread;
    private final Fraction answer;
    private final Fraction meanReturn;

    public ChainSolves() {
        chain = new Chain();
        ways = new Ways(chain);
        likeness = new Likeness(chain);
        firstSteps = new FirstSteps(chain);
        spread = new Spread(chain);
        answer = new Fraction();
        meanReturn = new Fraction();
    }

    public void clear() {
        chain.removeAll();
        answer.put(0, 1);
    }

    public int state() {
        if (chain.count >= MOST_STATES) {
            return NO_ROOM;
        }
        chain.count++;
        return chain.count - 1;
    }

    public int arc(int from, int to, int weight) {
        if (!chain.has(from) || !chain.has(to)) {
            return NONE;
        }
        if (weight < 0 || weight > MOST_WEIGHT) {
            return OUTSIDE;
        }
        int old = chain.weights[from][to];
        int total = chain.totals[from] - old + weight;
        if (total > MOST_TOTAL) {
            return OUTSIDE;
        }
        chain.weights[from][to] = weight;
        chain.totals[from] = total;
        return old;
    }

    public int reward(int state, int v) {
        if (!chain.has(state)) {
            return NONE;
        }
        if (v < -MOST_REWARD || v > MOST_REWARD) {
            return OUTSIDE;
        }
        int old = chain.rewards[state];
        chain.rewards[state] = v;
        return old + MOST_REWARD;
    }

    public int part(int state) {
        return chain.has(state) ? ways.leastOfPart(state) : NONE;
    }

    public int closed(int state) {
        if (!chain.has(state)) {
            return NONE;
        }
        return ways.isClosedAt(state) ? 1 : 0;
    }

    public int period(int state) {
        return chain.has(state) ? ways.ringDivisor(state) : NONE;
    }

    public int alike(int state) {
        if (!chain.has(state)) {
            return NONE;
        }
        likeness.find();
        return likeness.groups[state];
    }

    public int ever(int from, int to) {
        if (!chain.has(from) || !chain.has(to)) {
            return NONE;
        }
        answerOddsToMeet(from, 1 << to, 0);
        return ANSWERED;
    }

    public int again(int state) {
        if (!chain.has(state)) {
            return NONE;
        }
        int goal = 1 << state;
        firstSteps.gainByEntering(goal);
        firstSteps.solve(state, ways.leadingTo(goal, 0) & ~goal, answer);
        return ANSWERED;
    }

    public int before(int from, int a, int b) {
        if (!chain.has(from) || !chain.has(a) || !chain.has(b)) {
            return NONE;
        }
        if (a == b) {
            return NOT_SO;
        }
        answerOddsToMeet(from, 1 << a, 1 << b);
        return ANSWERED;
    }

    public int steps(int from, int set) {
        if (!chain.has(from) || (set & ~chain.all()) != 0) {
            return NONE;
        }
        if (!ways.isSureToMeet(from, set)) {
            return NOT_SO;
        }
        if (holds(set, from)) {
            answer.put(0, 1);
            return ANSWERED;
        }
        firstSteps.gainByStep();
        firstSteps.solve(from, ways.metFrom(from, set) & ~set, answer);
        return ANSWERED;
    }

    public int visits(int from, int to) {
        if (!chain.has(from) || !chain.has(to)) {
            return NONE;
        }
        int open = ways.leadingTo(1 << to, 0);
        if (!holds(open, from)) {
            answer.put(0, 1);
            return ANSWERED;
        }
        if (ways.isClosedAt(to)) {
            return NOT_SO;
        }
        firstSteps.gainByBeingIn(to);
        firstSteps.solve(from, open, answer);
        return ANSWERED;
    }

    public int share(int from, int to) {
        if (!chain.has(from) || !chain.has(to)) {
            return NONE;
        }
        if (!ways.isClosedAt(to)) {
            answer.put(0, 1);
            return ANSWERED;
        }
        // In a closed part a state is met once in each mean time of return,
        // and whoever comes into the part is sure to meet it.
        int goal = 1 << to;
        firstSteps.gainByStep();
        firstSteps.solve(to, ways.metFrom(to, 0) & ~goal, meanReturn);
        answerOddsToMeet(from, goal, 0);
        answer.put(answer.upper * meanReturn.lower, answer.lower * meanReturn.upper);
        return ANSWERED;
    }

    public int after(int from, int to, int n) {
        if (!chain.has(from) || !chain.has(to)) {
            return NONE;
        }
        if (n < 0 || n > MOST_STEPS) {
            return OUTSIDE;
        }
        spread.start(from);
        for (int step = 0; step < n; step++) {
            spread.goOn();
        }
        answer.put(spread.now[to], spread.whole);
        return ANSWERED;
    }

    public int worth(int from) {
        if (!chain.has(from)) {
            return NONE;
        }
        int ends = chain.ends();
        if (!ways.isSureToMeet(from, ends)) {
            return NOT_SO;
        }
        if (holds(ends, from)) {
            answer.put(0, 1);
            return ANSWERED;
        }
        firstSteps.gainByReward();
        firstSteps.solve(from, ways.metFrom(from, 0) & ~ends, answer);
        return ANSWERED;
    }

    public long upper() {
        return answer.upper;
    }

    public long lower() {
        return answer.lower;
    }

    public int told(int what) {
        switch (what) {
            case 0:
                return chain.count;
            case 1:
                return chain.countWeights();
            case 2:
                return Integer.bitCount(chain.ends());
            case 3:
                return ways.countParts(false);
            case 4:
                return ways.countParts(true);
            case 5:
                likeness.find();
                return likeness.countGroups();
            default:
                return OUTSIDE;
        }
    }

    /** The odds to be in a state of goal ahead of all states of shunned. */
    private void answerOddsToMeet(int from, int goal, int shunned) {
        int leading = ways.leadingTo(goal, shunned);
        if (holds(goal, from)) {
            answer.put(1, 1);
        } else if (!holds(leading, from)) {
            answer.put(0, 1);
        } else {
            firstSteps.gainByEntering(goal);
            firstSteps.solve(from, leading & ~goal, answer);
        }
    }

    private static boolean holds(int set, int state) {
        return (set >> state & 1) != 0;
    }

    private static long commonDivisor(long a, long b) {
        long high = Math.abs(a);
        long low = Math.abs(b);
        // Euclid needs fewer than 100 turns for any two longs.
        for (int turn = 0; turn < 100 && low != 0; turn++) {
            long rest = high % low;
            high = low;
            low = rest;
        }
        return high;
    }

    /** A fraction in lowest terms whose lower number is above 0. */
    private static final class Fraction {
        private long upper = 0;
        private long lower = 1;

        void put(long above, long below) {
            long divisor = commonDivisor(above, below);
            if (below == 0 || divisor == 0) {
                upper = 0;
                lower = 1;
                return;
            }
            long signed = below < 0 ? -divisor : divisor;
            upper = above / signed;
            lower = below / signed;
        }
    }

    /** What was set: states, weights, rewards. Sets of states are bits. */
    private static final class Chain {
        private final int[][] weights = new int[MOST_STATES][MOST_STATES];
        private final int[] totals = new int[MOST_STATES];
        private final int[] rewards = new int[MOST_STATES];
        private int count = 0;

        boolean has(int state) {
            return state >= 0 && state < count;
        }

        int all() {
            return (1 << count) - 1;
        }

        void removeAll() {
            for (int i = 0; i < MOST_STATES; i++) {
                for (int j = 0; j < MOST_STATES; j++) {
                    weights[i][j] = 0;
                }
                totals[i] = 0;
                rewards[i] = 0;
            }
            count = 0;
        }

        boolean isEnd(int state) {
            return totals[state] == 0;
        }

        int ends() {
            int ends = 0;
            for (int i = 0; i < count; i++) {
                if (isEnd(i)) {
                    ends |= 1 << i;
                }
            }
            return ends;
        }

        int countWeights() {
            int found = 0;
            for (int i = 0; i < count; i++) {
                for (int j = 0; j < count; j++) {
                    if (weights[i][j] != 0) {
                        found++;
                    }
                }
            }
            return found;
        }

        /** The upper number of a step's odds: an end leads to itself. */
        int pull(int from, int to) {
            if (isEnd(from)) {
                return from == to ? 1 : 0;
            }
            return weights[from][to];
        }

        /** The lower number of a step's odds, never 0. */
        int pullOfAll(int from) {
            return isEnd(from) ? 1 : totals[from];
        }

        int pullInto(int from, int set) {
            int sum = 0;
            for (int to = 0; to < count; to++) {
                if (holds(set, to)) {
                    sum += pull(from, to);
                }
            }
            return sum;
        }

        int nextOnes(int from) {
            int next = 0;
            for (int to = 0; to < count; to++) {
                if (pull(from, to) != 0) {
                    next |= 1 << to;
                }
            }
            return next;
        }
    }

    /** What can be come to, parts and rings: odds count only as 0 or not 0. */
    private static final class Ways {
        private final Chain chain;

        Ways(Chain chain) {
            this.chain = chain;
        }

        /** The states that can be come to if the walk halts in those of halts. */
        int metFrom(int from, int halts) {
            int met = 1 << from;
            for (int round = 0; round < chain.count; round++) {
                for (int i = 0; i < chain.count; i++) {
                    if (holds(met & ~halts, i)) {
                        met |= chain.nextOnes(i);
                    }
                }
            }
            return met;
        }

        /** The states from which goal can be come to without being in shunned. */
        int leadingTo(int goal, int shunned) {
            int leading = goal;
            for (int round = 0; round < chain.count; round++) {
                for (int i = 0; i < chain.count; i++) {
                    if (!holds(shunned, i) && (chain.nextOnes(i) & leading) != 0) {
                        leading |= 1 << i;
                    }
                }
            }
            return leading;
        }

        boolean isSureToMeet(int from, int goal) {
            return (metFrom(from, goal) & ~leadingTo(goal, 0)) == 0;
        }

        int leastOfPart(int state) {
            int mates = metFrom(state, 0) & leadingTo(1 << state, 0);
            for (int i = 0; i < state; i++) {
                if (holds(mates, i)) {
                    return i;
                }
            }
            return state;
        }

        /** Closed: wherever the walk comes to, it can come back. */
        boolean isClosedAt(int state) {
            return (metFrom(state, 0) & ~leadingTo(1 << state, 0)) == 0;
        }

        int countParts(boolean onlyClosed) {
            int found = 0;
            for (int i = 0; i < chain.count; i++) {
                if (leastOfPart(i) == i && (!onlyClosed || isClosedAt(i))) {
                    found++;
                }
            }
            return found;
        }

        int ringDivisor(int state) {
            int divisor = 0;
            int there = 1 << state;
            // Each ring of the part, at most count long, can be told by two
            // round trips from the state, with it and without it: both are
            // shorter than three times count.
            for (int step = 1; step <= 3 * chain.count; step++) {
                there = oneStepOn(there);
                if (holds(there, state)) {
                    divisor = (int) commonDivisor(divisor, step);
                }
            }
            return divisor;
        }

        private int oneStepOn(int set) {
            int next = 0;
            for (int i = 0; i < chain.count; i++) {
                if (holds(set, i)) {
                    next |= chain.nextOnes(i);
                }
            }
            return next;
        }
    }

    /** Groups of states that are alike, each named by its least state. */
    private static final class Likeness {
        private final Chain chain;
        private final int[] groups = new int[MOST_STATES];
        private final int[] finer = new int[MOST_STATES];

        Likeness(Chain chain) {
            this.chain = chain;
        }

        void find() {
            for (int i = 0; i < chain.count; i++) {
                groups[i] = 0;
            }
            // The first round parts by ends and rewards; each one behind it
            // makes at least one group more, or changes nothing any more.
            for (int round = 0; round <= chain.count; round++) {
                for (int i = 0; i < chain.count; i++) {
                    finer[i] = leastMate(i);
                }
                for (int i = 0; i < chain.count; i++) {
                    groups[i] = finer[i];
                }
            }
        }

        int countGroups() {
            int found = 0;
            for (int i = 0; i < chain.count; i++) {
                if (groups[i] == i) {
                    found++;
                }
            }
            return found;
        }

        private int leastMate(int state) {
            for (int i = 0; i < state; i++) {
                if (groups[i] == groups[state] && looksLike(i, state)) {
                    return i;
                }
            }
            return state;
        }

        private boolean looksLike(int a, int b) {
            if (chain.isEnd(a) != chain.isEnd(b) || chain.rewards[a] != chain.rewards[b]) {
                return false;
            }
            for (int group = 0; group < chain.count; group++) {
                int members = membersOf(group);
                int oddsA = chain.pullInto(a, members) * chain.pullOfAll(b);
                int oddsB = chain.pullInto(b, members) * chain.pullOfAll(a);
                if (oddsA != oddsB) {
                    return false;
                }
            }
            return true;
        }

        private int membersOf(int group) {
            int members = 0;
            for (int i = 0; i < chain.count; i++) {
                if (groups[i] == group) {
                    members |= 1 << i;
                }
            }
            return members;
        }
    }

    /**
     * Means by their first step. The value of a state is its gain, and the mean
     * of the values of the open states that a step leads to; a state that is
     * not open has the value 0. Gains are held times the state's total.
     *
     * The state asked for stands once more behind the open ones, as the last
     * unknown: so it need not be open itself, and is known without going back
     * through the rows.
     */
    private static final class FirstSteps {
        private final Chain chain;
        private final long[] gains = new long[MOST_STATES];
        private final int[] rowStates = new int[MOST_STATES + 1];
        private final long[][] rows = new long[MOST_STATES + 1][MOST_STATES + 2];
        private int last = 0;

        FirstSteps(Chain chain) {
            this.chain = chain;
        }

        void gainByEntering(int goal) {
            for (int i = 0; i < chain.count; i++) {
                gains[i] = chain.pullInto(i, goal);
            }
        }

        void gainByStep() {
            for (int i = 0; i < chain.count; i++) {
                gains[i] = chain.pullOfAll(i);
            }
        }

        void gainByBeingIn(int state) {
            for (int i = 0; i < chain.count; i++) {
                gains[i] = i == state ? chain.pullOfAll(i) : 0;
            }
        }

        void gainByReward() {
            for (int i = 0; i < chain.count; i++) {
                gains[i] = (long) chain.pullOfAll(i) * chain.rewards[i];
            }
        }

        /** From each open state the walk must be able to leave the open ones. */
        void solve(int from, int open, Fraction value) {
            last = 0;
            for (int i = 0; i < chain.count; i++) {
                if (holds(open, i)) {
                    rowStates[last] = i;
                    last++;
                }
            }
            rowStates[last] = from;
            for (int row = 0; row <= last; row++) {
                writeRow(row);
            }
            eliminate();
            value.put(rows[last][last + 1], rows[last][last]);
        }

        private void writeRow(int row) {
            int state = rowStates[row];
            for (int column = 0; column < last; column++) {
                rows[row][column] = -chain.pull(state, rowStates[column]);
            }
            rows[row][last] = 0;
            rows[row][row] += chain.pullOfAll(state);
            rows[row][last + 1] = gains[state];
        }

        /**
         * Elimination without fractions: each division by the pivot before is
         * exact, so all numbers stay minors of the rows, far within a long.
         * Since the open states can all be left, no pivot is 0.
         */
        private void eliminate() {
            long divisor = 1;
            for (int pivot = 0; pivot < last; pivot++) {
                for (int row = pivot + 1; row <= last; row++) {
                    reduceRow(row, pivot, divisor);
                }
                divisor = rows[pivot][pivot];
            }
        }

        private void reduceRow(int row, int pivot, long divisor) {
            if (divisor == 0) {
                return;
            }
            long factor = rows[row][pivot];
            for (int column = pivot + 1; column <= last + 1; column++) {
                long crossed = rows[row][column] * rows[pivot][pivot] - factor * rows[pivot][column];
                rows[row][column] = crossed / divisor;
            }
        }
    }

    /** Where the walk may be behind some steps: odds with one lower number. */
    private static final class Spread {
        /** All totals, 1 to 12, divide it; its fourth power is within a long. */
        private static final long COMMON = 27720;

        private final Chain chain;
        private final long[] now = new long[MOST_STATES];
        private final long[] next = new long[MOST_STATES];
        private long whole = 1;

        Spread(Chain chain) {
            this.chain = chain;
        }

        void start(int from) {
            for (int i = 0; i < MOST_STATES; i++) {
                now[i] = i == from ? 1 : 0;
            }
            whole = 1;
        }

        void goOn() {
            for (int to = 0; to < chain.count; to++) {
                long sum = 0;
                for (int from = 0; from < chain.count; from++) {
                    sum += now[from] * (COMMON / chain.pullOfAll(from)) * chain.pull(from, to);
                }
                next[to] = sum;
            }
            for (int i = 0; i < chain.count; i++) {
                now[i] = next[i];
            }
            whole *= COMMON;
        }
    }
}
