import java.util.Arrays;

/**
 * Keeps statements of and, or, implies and falsehood, searches proofs of them that do without the
 * law of the excluded middle, and keeps each proof as typed nodes that can be looked at again.
 */
public final class ProofSeeker {
    public static final int BAD = -1;
    public static final int NO = -2;
    public static final int FULL = -3;
    public static final int OUT = -4;

    private static final int MOST_STATEMENTS = 600;
    private static final int MOST_NODES = 8000;
    private static final int MOST_FUEL = 3000;
    private static final int ATOMS = 32;
    private static final int DEEPEST = 80;

    // The sorts of statements.
    private static final int ATOM = 0;
    private static final int FALSE = 1;
    private static final int AND = 2;
    private static final int OR = 3;
    private static final int IMPLIES = 4;

    // The tags of nodes.
    private static final int GIVEN = 0;
    private static final int LAMBDA = 1;
    private static final int APPLIED = 2;
    private static final int PAIR = 3;
    private static final int FIRST = 4;
    private static final int SECOND = 5;
    private static final int LEFT = 6;
    private static final int RIGHT = 7;
    private static final int CASES = 8;
    private static final int ABSURD = 9;

    private final StatementStore statementStore;
    private final NodeStore nodeStore;
    private final Search search;
    private final ProofMaker proofMaker;

    public ProofSeeker() {
        Derivation derivation = new Derivation();
        statementStore = new StatementStore();
        nodeStore = new NodeStore(statementStore);
        search = new Search(statementStore, derivation);
        proofMaker = new ProofMaker(statementStore, nodeStore, derivation);
    }

    public int atom(int i) {
        return i >= 0 && i < ATOMS ? statementStore.make(ATOM, i, 0) : BAD;
    }

    public int falsehood() {
        return statementStore.make(FALSE, 0, 0);
    }

    public int join(int sort, int a, int b) {
        boolean known = sort == AND || sort == OR || sort == IMPLIES;
        if (!known || !statementStore.holds(a) || !statementStore.holds(b)) {
            return BAD;
        }
        return statementStore.make(sort, a, b);
    }

    public int told(int f, int what) {
        if (!statementStore.holds(f)) {
            return BAD;
        }
        switch (what) {
            case 0: return statementStore.sortOf(f);
            case 1: return statementStore.leftOf(f);
            case 2: return statementStore.rightOf(f);
            default: return BAD;
        }
    }

    public int statements() {
        return statementStore.size();
    }

    public int nodes() {
        return nodeStore.size();
    }

    public int prove(int f, int fuel) {
        if (!statementStore.holds(f) || fuel < 0 || fuel > MOST_FUEL) {
            return BAD;
        }
        int found = search.run(f, fuel);
        return found > 0 ? proofMaker.makeAll(found) : found;
    }

    public int used() {
        return search.fuelSpent();
    }

    public int node(int tag, int goal, int a, int b, int c) {
        if (tag < GIVEN || tag > ABSURD || !statementStore.holds(goal)) {
            return BAD;
        }
        int parts = NodeStore.partsOf(tag);
        if (parts >= 1 && !nodeStore.holds(a)
                || parts >= 2 && !nodeStore.holds(b)
                || parts >= 3 && !nodeStore.holds(c)) {
            return BAD;
        }
        return nodeStore.make(tag, goal, parts >= 1 ? a : 0, parts >= 2 ? b : 0, parts >= 3 ? c : 0);
    }

    public int of(int node, int what) {
        if (!nodeStore.holds(node)) {
            return BAD;
        }
        switch (what) {
            case 0: return nodeStore.tagOf(node);
            case 1: return nodeStore.goalOf(node);
            case 2: return nodeStore.firstOf(node);
            case 3: return nodeStore.secondOf(node);
            case 4: return nodeStore.thirdOf(node);
            default: return BAD;
        }
    }

    public int wellMade(int node) {
        return nodeStore.holds(node) ? asAnswer(nodeStore.isSound(node)) : BAD;
    }

    public int rests(int node) {
        return nodeStore.holds(node) ? nodeStore.restCount(node) : BAD;
    }

    public int restsOn(int node, int f) {
        if (!nodeStore.holds(node)) {
            return BAD;
        }
        int least = nodeStore.restAbove(node, f);
        return least > 0 ? least : NO;
    }

    public int proves(int node) {
        if (!nodeStore.holds(node)) {
            return BAD;
        }
        return asAnswer(nodeStore.isSound(node) && nodeStore.restCount(node) == 0);
    }

    public int isTrue(int f, int atoms) {
        return statementStore.holds(f) ? asAnswer(statementStore.holdsWhen(f, atoms)) : BAD;
    }

    private static int asAnswer(boolean yes) {
        return yes ? 1 : 0;
    }

    /** Numbers by index; grows as it is written, so that a new object costs little room. */
    private static final class Row {
        private static final int LAST = MOST_NODES;

        private int[] cells = new int[16];

        int get(int i) {
            return i >= 0 && i < cells.length ? cells[i] : 0;
        }

        void put(int i, int value) {
            if (i < 0 || i > LAST) {
                return;
            }
            if (i >= cells.length) {
                cells = Arrays.copyOf(cells, Math.max(i + 1, 2 * cells.length));
            }
            cells[i] = value;
        }
    }

    /** Sets of statements, by row; a statement's number is its bit, and bit 0 is never set. */
    private static final class Sets {
        private static final int LAST_ROW = MOST_NODES;
        private static final int WORDS = (MOST_STATEMENTS >> 6) + 1;

        private long[] words = new long[4 * WORDS];
        /** No row has a bit in a word above this one. */
        private int top = 0;

        boolean has(int row, int f) {
            return f > 0 && (word(row, f >> 6) >>> f & 1L) != 0;
        }

        void add(int row, int f) {
            if (f > 0 && f <= MOST_STATEMENTS && reaches(row)) {
                words[row * WORDS + (f >> 6)] |= 1L << f;
                top = Math.max(top, f >> 6);
            }
        }

        void remove(int row, int f) {
            if (f > 0 && f <= MOST_STATEMENTS && reaches(row)) {
                words[row * WORDS + (f >> 6)] &= ~(1L << f);
            }
        }

        void clear(int row) {
            if (reaches(row)) {
                Arrays.fill(words, row * WORDS, (row + 1) * WORDS, 0L);
            }
        }

        void copy(int from, int to) {
            if (reaches(from) && reaches(to)) {
                System.arraycopy(words, from * WORDS, words, to * WORDS, WORDS);
            }
        }

        /** Adds to one row what another has, but for one statement (0: but for none). */
        void merge(int to, int from, int but) {
            if (!reaches(from) || !reaches(to)) {
                return;
            }
            for (int w = 0; w <= top; w++) {
                long more = word(from, w);
                if (but > 0 && w == but >> 6) {
                    more &= ~(1L << but);
                }
                words[to * WORDS + w] |= more;
            }
        }

        int count(int row) {
            int sum = 0;
            for (int w = 0; w <= top; w++) {
                sum += Long.bitCount(word(row, w));
            }
            return sum;
        }

        /** The least statement above f that is in a row here and in a row there; 0 if none is. */
        int leastShared(int row, Sets there, int thereRow, int f) {
            if (f >= MOST_STATEMENTS) {
                return 0;
            }
            int start = Math.max(f, 0) + 1;
            int end = Math.min(top, there.top);
            for (int w = start >> 6; w <= end; w++) {
                long shared = word(row, w) & there.word(thereRow, w);
                if (w == start >> 6) {
                    shared &= -1L << start;
                }
                if (shared != 0) {
                    // The ones below the lowest set bit are as many as its index.
                    return (w << 6) + Long.bitCount((shared & -shared) - 1);
                }
            }
            return 0;
        }

        private long word(int row, int w) {
            boolean inside = row >= 0 && row < words.length / WORDS && w >= 0 && w < WORDS;
            return inside ? words[row * WORDS + w] : 0L;
        }

        private boolean reaches(int row) {
            if (row < 0 || row > LAST_ROW) {
                return false;
            }
            int needed = (row + 1) * WORDS;
            if (needed > words.length) {
                words = Arrays.copyOf(words, Math.max(needed, 2 * words.length));
            }
            return true;
        }
    }

    /** The statements, kept once each. */
    private static final class StatementStore {
        /** Implications from a statement of sort s are of kind FROM + s; other kinds are sorts. */
        static final int FROM = 5;

        private static final int BUCKETS = 256;

        private final Row sorts = new Row();
        private final Row lefts = new Row();
        private final Row rights = new Row();
        /** By kind, the statements of it. */
        private final Sets kinds = new Sets();
        /** By bucket, its latest statement; by statement, the one before it in its bucket. */
        private final int[] heads = new int[BUCKETS];
        private final Row earlier = new Row();
        private final Sets trueOnes = new Sets();
        private int size = 0;

        int size() {
            return size;
        }

        boolean holds(int f) {
            return f >= 1 && f <= size;
        }

        int sortOf(int f) {
            return sorts.get(f);
        }

        int leftOf(int f) {
            return lefts.get(f);
        }

        int rightOf(int f) {
            return rights.get(f);
        }

        Sets byKind() {
            return kinds;
        }

        /** The statement's number, or FULL; of an atom the left part is its index. */
        int make(int sort, int left, int right) {
            int there = find(sort, left, right);
            if (there != 0) {
                return there;
            }
            if (size >= MOST_STATEMENTS) {
                return FULL;
            }
            int bucket = bucketOf(sort, left, right);
            size++;
            sorts.put(size, sort);
            lefts.put(size, left);
            rights.put(size, right);
            earlier.put(size, heads[bucket]);
            heads[bucket] = size;
            kinds.add(sort, size);
            if (sort == IMPLIES) {
                kinds.add(FROM + sortOf(left), size);
            }
            return size;
        }

        /** The statement's number, or 0 if it was not made. */
        int find(int sort, int left, int right) {
            int f = heads[bucketOf(sort, left, right)];
            for (int seen = 0; f != 0 && seen < MOST_STATEMENTS; seen++) {
                if (sortOf(f) == sort && leftOf(f) == left && rightOf(f) == right) {
                    return f;
                }
                f = earlier.get(f);
            }
            return 0;
        }

        /** Whether f is true by tables; parts have lower numbers, so one pass upwards tells. */
        boolean holdsWhen(int f, int atoms) {
            trueOnes.clear(0);
            for (int s = 1; s <= f && s <= size; s++) {
                if (followsFromParts(s, atoms)) {
                    trueOnes.add(0, s);
                }
            }
            return trueOnes.has(0, f);
        }

        private boolean followsFromParts(int f, int atoms) {
            int left = leftOf(f);
            int right = rightOf(f);
            switch (sortOf(f)) {
                case ATOM: return (atoms >>> left & 1) == 1;
                case AND: return trueOnes.has(0, left) && trueOnes.has(0, right);
                case OR: return trueOnes.has(0, left) || trueOnes.has(0, right);
                case IMPLIES: return !trueOnes.has(0, left) || trueOnes.has(0, right);
                default: return false;
            }
        }

        private static int bucketOf(int sort, int left, int right) {
            return (sort * 31 + left) * 31 + right & BUCKETS - 1;
        }
    }

    /** The nodes of proofs, kept once each, with what can be told of them when they are made. */
    private static final class NodeStore {
        private static final int[] PARTS = {0, 1, 2, 2, 1, 1, 1, 1, 3, 1};
        private static final int BUCKETS = 1024;

        private final StatementStore statementStore;
        private final Row tags = new Row();
        private final Row goals = new Row();
        private final Row firsts = new Row();
        private final Row seconds = new Row();
        private final Row thirds = new Row();
        private final Row sound = new Row();
        /** By node, what it rests on. */
        private final Sets rested = new Sets();
        /** By bucket, its latest node; by node, the one before it in its bucket. */
        private final int[] heads = new int[BUCKETS];
        private final Row earlier = new Row();
        private int size = 0;

        NodeStore(StatementStore statementStore) {
            this.statementStore = statementStore;
        }

        static int partsOf(int tag) {
            return tag >= 0 && tag < PARTS.length ? PARTS[tag] : 0;
        }

        int size() {
            return size;
        }

        boolean holds(int n) {
            return n >= 1 && n <= size;
        }

        int tagOf(int n) {
            return tags.get(n);
        }

        int goalOf(int n) {
            return goals.get(n);
        }

        int firstOf(int n) {
            return firsts.get(n);
        }

        int secondOf(int n) {
            return seconds.get(n);
        }

        int thirdOf(int n) {
            return thirds.get(n);
        }

        boolean isSound(int n) {
            return sound.get(n) == 1;
        }

        int restCount(int n) {
            return rested.count(n);
        }

        /** The least statement above f that n rests on; 0 if there is none. */
        int restAbove(int n, int f) {
            return rested.leastShared(n, rested, n, f);
        }

        /** The node's number, or FULL; parts that the tag has not are to be 0. */
        int make(int tag, int goal, int a, int b, int c) {
            int bucket = bucketOf(tag, goal, a, b, c);
            int n = heads[bucket];
            for (int seen = 0; n != 0 && seen < MOST_NODES; seen++) {
                if (isMadeOf(n, tag, goal, a, b, c)) {
                    return n;
                }
                n = earlier.get(n);
            }
            if (size >= MOST_NODES) {
                return FULL;
            }
            size++;
            earlier.put(size, heads[bucket]);
            heads[bucket] = size;
            write(size, tag, goal, a, b, c);
            return size;
        }

        private boolean isMadeOf(int n, int tag, int goal, int a, int b, int c) {
            return goalOf(n) == goal && tagOf(n) == tag
                    && firstOf(n) == a && secondOf(n) == b && thirdOf(n) == c;
        }

        private void write(int n, int tag, int goal, int a, int b, int c) {
            tags.put(n, tag);
            goals.put(n, goal);
            firsts.put(n, a);
            seconds.put(n, b);
            thirds.put(n, c);
            sound.put(n, partsAreSound(n) && goalFits(n) ? 1 : 0);
            writeRests(n);
        }

        private boolean partsAreSound(int n) {
            int parts = partsOf(tagOf(n));
            return (parts < 1 || isSound(firstOf(n)))
                    && (parts < 2 || isSound(secondOf(n)))
                    && (parts < 3 || isSound(thirdOf(n)));
        }

        private boolean goalFits(int n) {
            int goal = goalOf(n);
            int one = goalOf(firstOf(n));
            int two = goalOf(secondOf(n));
            int three = goalOf(thirdOf(n));
            switch (tagOf(n)) {
                case GIVEN: return true;
                case LAMBDA: return isOf(goal, IMPLIES) && statementStore.rightOf(goal) == one;
                case APPLIED: return isJoin(one, IMPLIES, two, goal);
                case PAIR: return isJoin(goal, AND, one, two);
                case FIRST: return isOf(one, AND) && statementStore.leftOf(one) == goal;
                case SECOND: return isOf(one, AND) && statementStore.rightOf(one) == goal;
                case LEFT: return isOf(goal, OR) && statementStore.leftOf(goal) == one;
                case RIGHT: return isOf(goal, OR) && statementStore.rightOf(goal) == one;
                case CASES: return isOf(one, OR) && two == goal && three == goal;
                case ABSURD: return isOf(one, FALSE);
                default: return false;
            }
        }

        private boolean isOf(int f, int sort) {
            return statementStore.holds(f) && statementStore.sortOf(f) == sort;
        }

        private boolean isJoin(int f, int sort, int left, int right) {
            return isOf(f, sort)
                    && statementStore.leftOf(f) == left && statementStore.rightOf(f) == right;
        }

        private void writeRests(int n) {
            rested.clear(n);
            int goal = goalOf(n);
            int one = goalOf(firstOf(n));
            int tag = tagOf(n);
            if (tag == GIVEN) {
                rested.add(n, goal);
            } else if (tag == LAMBDA) {
                rested.merge(n, firstOf(n), isOf(goal, IMPLIES) ? statementStore.leftOf(goal) : 0);
            } else {
                boolean split = tag == CASES && isOf(one, OR);
                rested.merge(n, firstOf(n), 0);
                rested.merge(n, secondOf(n), split ? statementStore.leftOf(one) : 0);
                rested.merge(n, thirdOf(n), split ? statementStore.rightOf(one) : 0);
            }
        }

        private static int bucketOf(int tag, int goal, int a, int b, int c) {
            int mixed = (((tag * 31 + goal) * 31 + a) * 31 + b) * 31 + c;
            return (mixed ^ mixed >>> 10) & BUCKETS - 1;
        }
    }

    /**
     * What the search has come to: a step for each sequent it looked at, numbered from 1. A step's
     * WAY is the rule it went by and the given statement that the rule takes up (0 if it takes up
     * none), in one number so that "no way" can be 0.
     */
    private static final class Derivation {
        static final int GOAL_IS_GIVEN = 1;
        static final int FALSE_IS_GIVEN = 2;
        static final int GOAL_IS_AND = 3;
        static final int GOAL_IS_IMPLIES = 4;
        static final int TAKES_AND = 5;
        static final int TAKES_OR = 6;
        static final int TAKES_FIRED = 7;
        static final int TAKES_FROM_FALSE = 8;
        static final int TAKES_FROM_AND = 9;
        static final int TAKES_FROM_OR = 10;
        // The document's rule 11 is three ways of going on.
        static final int CHOOSES_LEFT = 11;
        static final int CHOOSES_RIGHT = 12;
        static final int CHOOSES_NESTED = 13;

        /** By rule, how many sequents it leads to. */
        private static final int[] PREMISES = {0, 0, 0, 2, 1, 1, 2, 1, 1, 1, 1, 1, 1, 2};

        private final Row goals = new Row();
        private final Row ways = new Row();
        private final Row firsts = new Row();
        private final Row seconds = new Row();

        static int way(int rule, int taken) {
            return taken << 4 | rule;
        }

        static int ruleOf(int way) {
            return way & 15;
        }

        static int takenBy(int way) {
            return way >> 4;
        }

        static int premisesOf(int rule) {
            return rule >= 0 && rule < PREMISES.length ? PREMISES[rule] : 0;
        }

        int goalOf(int step) {
            return goals.get(step);
        }

        int wayOf(int step) {
            return ways.get(step);
        }

        int firstOf(int step) {
            return firsts.get(step);
        }

        int secondOf(int step) {
            return seconds.get(step);
        }

        void setGoal(int step, int goal) {
            goals.put(step, goal);
        }

        void setWay(int step, int way) {
            ways.put(step, way);
        }

        void setPremise(int step, int k, int premise) {
            (k == 1 ? firsts : seconds).put(step, premise);
        }
    }

    /** The search; what it finds is left in the derivation. */
    private static final class Search {
        private static final int MOST_WAYS = MOST_STATEMENTS + 2;

        private final StatementStore statementStore;
        private final Derivation derivation;
        /** By depth, the given statements of the sequent that is looked at there. */
        private final Sets given = new Sets();
        private int fuel = 0;
        private int spent = 0;

        Search(StatementStore statementStore, Derivation derivation) {
            this.statementStore = statementStore;
            this.derivation = derivation;
        }

        int fuelSpent() {
            return spent;
        }

        /** The step that proves f from nothing; or NO, OUT, FULL. */
        int run(int f, int fuelGiven) {
            fuel = fuelGiven;
            spent = 0;
            given.clear(1);
            int answer = look(f, 1);
            if (answer == OUT) {
                spent = fuel;
            }
            return answer;
        }

        private int look(int goal, int depth) {
            if (depth > DEEPEST || spent >= fuel) {
                return OUT;
            }
            spent++;
            int step = spent;
            derivation.setGoal(step, goal);
            int way = firstWay(goal, depth);
            for (int tries = 0; way != 0 && tries < MOST_WAYS; tries++) {
                int answer = follow(step, way, depth);
                if (answer != NO) {
                    return answer;
                }
                way = nextWay(way, depth);
            }
            return NO;
        }

        private int follow(int step, int way, int depth) {
            derivation.setWay(step, way);
            int premises = Derivation.premisesOf(Derivation.ruleOf(way));
            for (int k = 1; k <= premises; k++) {
                int goal = preparePremise(step, k, depth);
                if (goal < 0) {
                    return goal;
                }
                int answer = look(goal, depth + 1);
                if (answer < 0) {
                    return answer;
                }
                derivation.setPremise(step, k, answer);
            }
            return step;
        }

        private int firstWay(int goal, int depth) {
            int sort = statementStore.sortOf(goal);
            if (given.has(depth, goal)) {
                return Derivation.way(Derivation.GOAL_IS_GIVEN, 0);
            }
            int bottom = leastOfKind(depth, FALSE, 0);
            if (bottom != 0) {
                return Derivation.way(Derivation.FALSE_IS_GIVEN, bottom);
            }
            if (sort == AND) {
                return Derivation.way(Derivation.GOAL_IS_AND, 0);
            }
            if (sort == IMPLIES) {
                return Derivation.way(Derivation.GOAL_IS_IMPLIES, 0);
            }
            int way = wayByGiven(depth);
            if (way != 0) {
                return way;
            }
            return sort == OR ? Derivation.way(Derivation.CHOOSES_LEFT, 0) : nestedAbove(depth, 0);
        }

        /** The document's rules 5 to 10, which take up a given statement and never need undoing. */
        private int wayByGiven(int depth) {
            int f = leastOfKind(depth, AND, 0);
            if (f != 0) {
                return Derivation.way(Derivation.TAKES_AND, f);
            }
            f = leastOfKind(depth, OR, 0);
            if (f != 0) {
                return Derivation.way(Derivation.TAKES_OR, f);
            }
            f = leastFired(depth);
            if (f != 0) {
                return Derivation.way(Derivation.TAKES_FIRED, f);
            }
            f = leastOfKind(depth, StatementStore.FROM + FALSE, 0);
            if (f != 0) {
                return Derivation.way(Derivation.TAKES_FROM_FALSE, f);
            }
            f = leastOfKind(depth, StatementStore.FROM + AND, 0);
            if (f != 0) {
                return Derivation.way(Derivation.TAKES_FROM_AND, f);
            }
            f = leastOfKind(depth, StatementStore.FROM + OR, 0);
            return f != 0 ? Derivation.way(Derivation.TAKES_FROM_OR, f) : 0;
        }

        private int nextWay(int way, int depth) {
            switch (Derivation.ruleOf(way)) {
                case Derivation.CHOOSES_LEFT: return Derivation.way(Derivation.CHOOSES_RIGHT, 0);
                case Derivation.CHOOSES_RIGHT: return nestedAbove(depth, 0);
                case Derivation.CHOOSES_NESTED: return nestedAbove(depth, Derivation.takenBy(way));
                default: return 0;
            }
        }

        private int nestedAbove(int depth, int above) {
            int f = leastOfKind(depth, StatementStore.FROM + IMPLIES, above);
            return f != 0 ? Derivation.way(Derivation.CHOOSES_NESTED, f) : 0;
        }

        private int leastOfKind(int depth, int kind, int above) {
            return given.leastShared(depth, statementStore.byKind(), kind, above);
        }

        /** The least given implication from something that is given; 0 if there is none. */
        private int leastFired(int depth) {
            int f = leastOfKind(depth, IMPLIES, 0);
            for (int seen = 0; f != 0 && seen < MOST_STATEMENTS; seen++) {
                if (given.has(depth, statementStore.leftOf(f))) {
                    return f;
                }
                f = leastOfKind(depth, IMPLIES, f);
            }
            return 0;
        }

        /** Sets what is given one level deeper for a step's k-th sequent: its goal, or FULL. */
        private int preparePremise(int step, int k, int depth) {
            int below = depth + 1;
            int goal = derivation.goalOf(step);
            int f = Derivation.takenBy(derivation.wayOf(step));
            given.copy(depth, below);
            given.remove(below, f);
            switch (Derivation.ruleOf(derivation.wayOf(step))) {
                case Derivation.GOAL_IS_AND:
                    return k == 1 ? statementStore.leftOf(goal) : statementStore.rightOf(goal);
                case Derivation.GOAL_IS_IMPLIES:
                    given.add(below, statementStore.leftOf(goal));
                    return statementStore.rightOf(goal);
                case Derivation.TAKES_AND:
                    given.add(below, statementStore.leftOf(f));
                    given.add(below, statementStore.rightOf(f));
                    return goal;
                case Derivation.TAKES_OR:
                    given.add(below, k == 1 ? statementStore.leftOf(f) : statementStore.rightOf(f));
                    return goal;
                case Derivation.TAKES_FIRED:
                    given.add(below, statementStore.rightOf(f));
                    return goal;
                case Derivation.TAKES_FROM_AND:
                    return curry(f, below) ? goal : FULL;
                case Derivation.TAKES_FROM_OR:
                    return splitFromOr(f, below) ? goal : FULL;
                case Derivation.CHOOSES_LEFT:
                    return statementStore.leftOf(goal);
                case Derivation.CHOOSES_RIGHT:
                    return statementStore.rightOf(goal);
                case Derivation.CHOOSES_NESTED:
                    return prepareNested(f, k, goal, below);
                default:
                    return goal;
            }
        }

        private boolean curry(int f, int below) {
            int both = statementStore.leftOf(f);
            int inner = statementStore.make(
                    IMPLIES, statementStore.rightOf(both), statementStore.rightOf(f));
            return inner > 0 && comes(below, statementStore.leftOf(both), inner);
        }

        private boolean splitFromOr(int f, int below) {
            int either = statementStore.leftOf(f);
            int end = statementStore.rightOf(f);
            return comes(below, statementStore.leftOf(either), end)
                    && comes(below, statementStore.rightOf(either), end);
        }

        private int prepareNested(int f, int k, int goal, int below) {
            int end = statementStore.rightOf(f);
            if (k == 2) {
                given.add(below, end);
                return goal;
            }
            int inner = statementStore.leftOf(f);
            return comes(below, statementStore.rightOf(inner), end) ? inner : FULL;
        }

        /** Makes an implication and adds it to what is given; false if there is no room. */
        private boolean comes(int depth, int from, int to) {
            int f = statementStore.make(IMPLIES, from, to);
            given.add(depth, f);
            return f > 0;
        }
    }

    /** Makes the nodes of a proof that the search found. */
    private static final class ProofMaker {
        private final StatementStore statementStore;
        private final NodeStore nodeStore;
        private final Derivation derivation;
        /** Once there was no room nothing more is made, whatever is still asked for. */
        private boolean full = false;

        ProofMaker(StatementStore statementStore, NodeStore nodeStore, Derivation derivation) {
            this.statementStore = statementStore;
            this.nodeStore = nodeStore;
            this.derivation = derivation;
        }

        /** The node for a step, or FULL. */
        int makeAll(int step) {
            full = false;
            return build(step, 1);
        }

        // Java works out arguments from left to right, which is the order the document asks for.
        private int build(int step, int depth) {
            if (full || depth > DEEPEST) {
                return FULL;
            }
            int goal = derivation.goalOf(step);
            int f = Derivation.takenBy(derivation.wayOf(step));
            int one = derivation.firstOf(step);
            int two = derivation.secondOf(step);
            int below = depth + 1;
            switch (Derivation.ruleOf(derivation.wayOf(step))) {
                case Derivation.GOAL_IS_GIVEN:
                    return given(goal);
                case Derivation.FALSE_IS_GIVEN:
                    return make(ABSURD, goal, given(f), 0, 0);
                case Derivation.GOAL_IS_AND:
                    return make(PAIR, goal, build(one, below), build(two, below), 0);
                case Derivation.GOAL_IS_IMPLIES:
                    return lambda(statementStore.leftOf(goal), build(one, below));
                case Derivation.TAKES_AND:
                    return unpack(f, build(one, below));
                case Derivation.TAKES_OR:
                    return make(CASES, goal, given(f), build(one, below), build(two, below));
                case Derivation.TAKES_FIRED:
                    return fire(f, build(one, below));
                case Derivation.TAKES_FROM_FALSE:
                    return build(one, below);
                case Derivation.TAKES_FROM_AND:
                    return uncurry(f, build(one, below));
                case Derivation.TAKES_FROM_OR:
                    return rejoin(f, build(one, below));
                case Derivation.CHOOSES_LEFT:
                    return make(LEFT, goal, build(one, below), 0, 0);
                case Derivation.CHOOSES_RIGHT:
                    return make(RIGHT, goal, build(one, below), 0, 0);
                case Derivation.CHOOSES_NESTED:
                    return nest(f, lambda(statementStore.rightOf(f), build(two, below)), given(f),
                            build(one, below));
                default:
                    return FULL;
            }
        }

        private int unpack(int f, int t) {
            int a = statementStore.leftOf(f);
            int b = statementStore.rightOf(f);
            return apply(
                    apply(lambda(a, lambda(b, t)), make(FIRST, a, given(f), 0, 0)),
                    make(SECOND, b, given(f), 0, 0));
        }

        private int fire(int f, int t) {
            return apply(
                    lambda(statementStore.rightOf(f), t),
                    apply(given(f), given(statementStore.leftOf(f))));
        }

        private int uncurry(int f, int t) {
            int both = statementStore.leftOf(f);
            int c = statementStore.leftOf(both);
            int d = statementStore.rightOf(both);
            int inner = implication(d, statementStore.rightOf(f));
            return apply(
                    lambda(implication(c, inner), t),
                    lambda(c, lambda(d, apply(given(f), make(PAIR, both, given(c), given(d), 0)))));
        }

        private int rejoin(int f, int t) {
            int either = statementStore.leftOf(f);
            int c = statementStore.leftOf(either);
            int d = statementStore.rightOf(either);
            int g = implication(c, statementStore.rightOf(f));
            int h = implication(d, statementStore.rightOf(f));
            return apply(
                    apply(
                            lambda(g, lambda(h, t)),
                            lambda(c, apply(given(f), make(LEFT, either, given(c), 0, 0)))),
                    lambda(d, apply(given(f), make(RIGHT, either, given(d), 0, 0))));
        }

        /** The whole for rule 11, of the lambda over the end, the node that gives f, and t. */
        private int nest(int f, int overEnd, int givenF, int t) {
            int inner = statementStore.leftOf(f);
            int c = statementStore.leftOf(inner);
            int d = statementStore.rightOf(inner);
            int g = implication(d, statementStore.rightOf(f));
            int proofOfInner =
                    apply(lambda(g, t), lambda(d, apply(given(f), lambda(c, given(d)))));
            return apply(overEnd, apply(givenF, proofOfInner));
        }

        /** One that the search has made already, as it was among the given ones. */
        private int implication(int from, int to) {
            return statementStore.find(IMPLIES, from, to);
        }

        private int given(int f) {
            return make(GIVEN, f, 0, 0, 0);
        }

        private int lambda(int from, int t) {
            if (full) {
                return FULL;
            }
            int goal = statementStore.make(IMPLIES, from, nodeStore.goalOf(t));
            full = goal == FULL;
            return make(LAMBDA, goal, t, 0, 0);
        }

        private int apply(int t, int u) {
            return make(APPLIED, statementStore.rightOf(nodeStore.goalOf(t)), t, u, 0);
        }

        private int make(int tag, int goal, int a, int b, int c) {
            if (full) {
                return FULL;
            }
            int made = nodeStore.make(tag, goal, a, b, c);
            full = made == FULL;
            return made;
        }
    }
}
