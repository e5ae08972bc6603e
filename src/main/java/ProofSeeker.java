import java.util.Arrays;

/**
 * Keeps statements of and, or, implies and falsehood, searches proofs of them that do without the
 * law of the excluded middle, and keeps each proof as typed nodes that can be looked at again.
 */
public final class ProofSeeker {
    public static final int BAD = -1;
    public static final int NO = -2;
    public static final int FULL = -3;
    public static final int OUT = -4;

    private static final int MOST_STATEMENTS = 600;
    private static final int MOST_NODES = 8000;
    private static final int MOST_FUEL = 3000;
    private static final int ATOMS = 32;
    private static final int DEEPEST = 80;

    // The sorts of statements.
    private static final int ATOM = 0;
    private static final int FALSE = 1;
    private static final int AND = 2;
    private static final int OR = 3;
    private static final int IMPLIES = 4;

    // The tags of nodes.
    private static final int GIVEN = 0;
    private static final int LAMBDA = 1;
    private static final int APPLIED = 2;
    private static final int PAIR = 3;
    private static final int FIRST = 4;
    private static final int SECOND = 5;
    private static final int LEFT = 6;
    private static final int RIGHT = 7;
    private static final int CASES = 8;
    private static final int ABSURD = 9;

    private final StatementStore statementStore;
    private final NodeStore nodeStore;
    private final Search search;
    private final ProofMaker proofMaker;

    public ProofSeeker() {
        Derivation derivation = new Derivation();
        statementStore = new StatementStore();
        nodeStore = new NodeStore(statementStore);
        search = new Search(statementStore, derivation);
        proofMaker = new ProofMaker(statementStore, nodeStore, derivation);
    }

    public int atom(int i) {
        return i >= 0 && i < ATOMS ? statementStore.make(ATOM, i, 0) : BAD;
    }

    public int falsehood() {
        return statementStore.make(FALSE, 0, 0);
    }

    public int join(int sort, int a, int b) {
        boolean known = sort == AND || sort == OR || sort == IMPLIES;
        if (!known || !statementStore.holds(a) || !statementStore.holds(b)) {
            return BAD;
        }
        return statementStore.make(sort, a, b);
    }

    public int told(int f, int what) {
        boolean known = statementStore.holds(f) && what >= 0 && what <= 2;
        return known ? statementStore.read(f, what) : BAD;
    }

    public int statements() {
        return statementStore.size();
    }

    public int nodes() {
        return nodeStore.size();
    }

    public int prove(int f, int fuel) {
        if (!statementStore.holds(f) || fuel < 0 || fuel > MOST_FUEL) {
            return BAD;
        }
        int found = search.run(f, fuel);
        return found > 0 ? proofMaker.makeAll(found) : found;
    }

    public int used() {
        return search.fuelSpent();
    }

    public int node(int tag, int goal, int a, int b, int c) {
        if (tag < GIVEN || tag > ABSURD || !statementStore.holds(goal)) {
            return BAD;
        }
        int parts = NodeStore.partsOf(tag);
        if (parts >= 1 && !nodeStore.holds(a)
                || parts >= 2 && !nodeStore.holds(b)
                || parts >= 3 && !nodeStore.holds(c)) {
            return BAD;
        }
        return nodeStore.make(tag, goal, parts >= 1 ? a : 0, parts >= 2 ? b : 0, parts >= 3 ? c : 0);
    }

    public int of(int node, int what) {
        boolean known = nodeStore.holds(node) && what >= 0 && what <= 4;
        return known ? nodeStore.read(node, what) : BAD;
    }

    public int wellMade(int node) {
        return nodeStore.holds(node) ? asAnswer(nodeStore.isSound(node)) : BAD;
    }

    public int rests(int node) {
        return nodeStore.holds(node) ? nodeStore.restCount(node) : BAD;
    }

    public int restsOn(int node, int f) {
        if (!nodeStore.holds(node)) {
            return BAD;
        }
        int least = nodeStore.restAbove(node, f);
        return least > 0 ? least : NO;
    }

    public int proves(int node) {
        if (!nodeStore.holds(node)) {
            return BAD;
        }
        return asAnswer(nodeStore.isSound(node) && nodeStore.restCount(node) == 0);
    }

    public int isTrue(int f, int atoms) {
        return statementStore.holds(f) ? asAnswer(statementStore.holdsWhen(f, atoms)) : BAD;
    }

    private static int asAnswer(boolean yes) {
        return yes ? 1 : 0;
    }

    /**
     * Rows of five numbers, kept once each and numbered from 1. Room is taken as it is needed, so
     * that a new object costs little of it.
     */
    private static final class Kept {
        private static final int NUMBERS = 5;
        private static final int WIDTH = NUMBERS + 1;
        private static final int BUCKETS = 1024;

        private final int most;
        /** By bucket, its latest row; behind the numbers of a row, the one before it there. */
        private final int[] heads = new int[BUCKETS];
        private int[] cells = new int[16 * WIDTH];
        private int size = 0;

        Kept(int most) {
            this.most = most;
        }

        int size() {
            return size;
        }

        int get(int row, int column) {
            boolean inside = row >= 1 && row <= size && column >= 0 && column < NUMBERS;
            return inside ? cells[row * WIDTH + column] : 0;
        }

        /** The row with these numbers, 0 if there is none. */
        int find(int a, int b, int c, int d, int e) {
            int row = heads[bucketOf(a, b, c, d, e)];
            for (int seen = 0; seen < size && row >= 1 && row <= size; seen++) {
                int at = row * WIDTH;
                if (cells[at] == a && cells[at + 1] == b && cells[at + 2] == c
                        && cells[at + 3] == d && cells[at + 4] == e) {
                    return row;
                }
                row = cells[at + NUMBERS];
            }
            return 0;
        }

        /** Makes a row that is not there: its number, or FULL. */
        int append(int a, int b, int c, int d, int e) {
            if (size >= most) {
                return FULL;
            }
            size++;
            int at = size * WIDTH;
            if (at + WIDTH > cells.length) {
                cells = Arrays.copyOf(cells, 2 * cells.length);
            }
            cells[at] = a;
            cells[at + 1] = b;
            cells[at + 2] = c;
            cells[at + 3] = d;
            cells[at + 4] = e;
            int bucket = bucketOf(a, b, c, d, e);
            cells[at + NUMBERS] = heads[bucket];
            heads[bucket] = size;
            return size;
        }

        private static int bucketOf(int a, int b, int c, int d, int e) {
            int mixed = (((a * 31 + b) * 31 + c) * 31 + d) * 31 + e;
            return (mixed ^ mixed >>> 10) & BUCKETS - 1;
        }
    }

    /** Sets of statements, by row; a statement's number is its bit, and bit 0 is never set. */
    private static final class Sets {
        private static final int WORDS = (MOST_STATEMENTS >> 6) + 1;

        private long[] words;
        /** No row has a bit in a word above this one. */
        private int top = 0;

        Sets(int rows) {
            words = new long[rows * WORDS];
        }

        /** Makes sure that there is a row of this number, empty if it is new. */
        void reach(int row) {
            int needed = (row + 1) * WORDS;
            if (needed > words.length) {
                words = Arrays.copyOf(words, Math.max(needed, 2 * words.length));
            }
        }

        boolean has(int row, int f) {
            return isInside(row, f) && (words[row * WORDS + (f >> 6)] >>> f & 1L) != 0;
        }

        void add(int row, int f) {
            if (isInside(row, f)) {
                words[row * WORDS + (f >> 6)] |= 1L << f;
                top = Math.max(top, f >> 6);
            }
        }

        void remove(int row, int f) {
            if (isInside(row, f)) {
                words[row * WORDS + (f >> 6)] &= ~(1L << f);
            }
        }

        void clear(int row) {
            if (isRow(row)) {
                Arrays.fill(words, row * WORDS, (row + 1) * WORDS, 0L);
            }
        }

        void copy(int from, int to) {
            if (isRow(from) && isRow(to)) {
                System.arraycopy(words, from * WORDS, words, to * WORDS, WORDS);
            }
        }

        /** Adds to one row what another has, but for one statement (0: but for none). */
        void merge(int to, int from, int but) {
            if (!isRow(from) || !isRow(to)) {
                return;
            }
            for (int w = 0; w <= top; w++) {
                long more = words[from * WORDS + w];
                if (but > 0 && w == but >> 6) {
                    more &= ~(1L << but);
                }
                words[to * WORDS + w] |= more;
            }
        }

        int count(int row) {
            int sum = 0;
            for (int w = 0; w <= top && isRow(row); w++) {
                sum += Long.bitCount(words[row * WORDS + w]);
            }
            return sum;
        }

        /** The least statement above f that is in a row here and in a row there; 0 if none is. */
        int leastShared(int row, Sets there, int thereRow, int f) {
            if (f >= MOST_STATEMENTS || !isRow(row) || !there.isRow(thereRow)) {
                return 0;
            }
            int start = Math.max(f, 0) + 1;
            int end = Math.min(top, there.top);
            for (int w = start >> 6; w <= end; w++) {
                long shared = words[row * WORDS + w] & there.words[thereRow * WORDS + w];
                if (w == start >> 6) {
                    shared &= -1L << start;
                }
                if (shared != 0) {
                    // The ones below the lowest set bit are as many as its index.
                    return (w << 6) + Long.bitCount((shared & -shared) - 1);
                }
            }
            return 0;
        }

        private boolean isRow(int row) {
            return row >= 0 && row < words.length / WORDS;
        }

        private boolean isInside(int row, int f) {
            return f > 0 && f <= MOST_STATEMENTS && row >= 0 && row < words.length / WORDS;
        }
    }

    /** The statements. */
    private static final class StatementStore {
        /** Implications from a statement of sort s are of kind FROM + s; other kinds are sorts. */
        static final int FROM = 5;

        private static final int KINDS = FROM + IMPLIES + 1;

        /** By statement its sort and its parts; of an atom the first part is its index. */
        private final Kept kept = new Kept(MOST_STATEMENTS);
        /** By kind, the statements of it. */
        private final Sets kinds = new Sets(KINDS);
        private final Sets trueOnes = new Sets(1);

        int size() {
            return kept.size();
        }

        boolean holds(int f) {
            return f >= 1 && f <= kept.size();
        }

        /** Column 0 is the sort, 1 and 2 are the parts. */
        int read(int f, int column) {
            return kept.get(f, column);
        }

        int sortOf(int f) {
            return kept.get(f, 0);
        }

        int leftOf(int f) {
            return kept.get(f, 1);
        }

        int rightOf(int f) {
            return kept.get(f, 2);
        }

        boolean isOf(int sort, int f) {
            return f >= 1 && f <= kept.size() && kept.get(f, 0) == sort;
        }

        Sets byKind() {
            return kinds;
        }

        /** The statement's number, or 0 if it was not made. */
        int find(int sort, int left, int right) {
            return kept.find(sort, left, right, 0, 0);
        }

        /** The statement's number, or FULL. */
        int make(int sort, int left, int right) {
            int there = kept.find(sort, left, right, 0, 0);
            if (there != 0) {
                return there;
            }
            int made = kept.append(sort, left, right, 0, 0);
            kinds.add(sort, made);
            if (sort == IMPLIES) {
                kinds.add(FROM + kept.get(left, 0), made);
            }
            return made;
        }

        /** Whether f is true by tables; parts have lower numbers, so one pass upwards tells. */
        boolean holdsWhen(int f, int atoms) {
            trueOnes.clear(0);
            for (int s = 1; s <= f && s <= kept.size(); s++) {
                if (followsFromParts(s, atoms)) {
                    trueOnes.add(0, s);
                }
            }
            return trueOnes.has(0, f);
        }

        private boolean followsFromParts(int f, int atoms) {
            int left = leftOf(f);
            int right = rightOf(f);
            switch (sortOf(f)) {
                case ATOM: return (atoms >>> left & 1) == 1;
                case AND: return trueOnes.has(0, left) && trueOnes.has(0, right);
                case OR: return trueOnes.has(0, left) || trueOnes.has(0, right);
                case IMPLIES: return !trueOnes.has(0, left) || trueOnes.has(0, right);
                default: return false;
            }
        }
    }

    /** The nodes of proofs. What they are worth is judged in their order, as far as it is asked. */
    private static final class NodeStore {
        private static final int[] PARTS = {0, 1, 2, 2, 1, 1, 1, 1, 3, 1};

        private final StatementStore statementStore;
        /** By node its tag, its goal and its parts, 0 where it has none. */
        private final Kept kept = new Kept(MOST_NODES);
        /** By node, what it rests on. */
        private final Sets rested = new Sets(16);
        /** By node, 1 if it is well made. */
        private int[] sound = new int[16];
        private int judged = 0;

        NodeStore(StatementStore statementStore) {
            this.statementStore = statementStore;
        }

        static int partsOf(int tag) {
            return tag >= 0 && tag < PARTS.length ? PARTS[tag] : 0;
        }

        int size() {
            return kept.size();
        }

        boolean holds(int n) {
            return n >= 1 && n <= kept.size();
        }

        /** Column 0 is the tag, 1 the goal, 2 3 4 are the parts. */
        int read(int n, int column) {
            return kept.get(n, column);
        }

        int goalOf(int n) {
            return kept.get(n, 1);
        }

        /** The node's number, or FULL; parts that the tag has not are to be 0. */
        int make(int tag, int goal, int a, int b, int c) {
            int there = kept.find(tag, goal, a, b, c);
            return there != 0 ? there : kept.append(tag, goal, a, b, c);
        }

        boolean isSound(int n) {
            judgeUpTo(n);
            return n >= 1 && n < sound.length && sound[n] == 1;
        }

        int restCount(int n) {
            judgeUpTo(n);
            return rested.count(n);
        }

        /** The least statement above f that n rests on; 0 if there is none. */
        int restAbove(int n, int f) {
            judgeUpTo(n);
            return rested.leastShared(n, rested, n, f);
        }

        private void judgeUpTo(int last) {
            if (last <= judged || last > kept.size()) {
                return;
            }
            rested.reach(last);
            if (last >= sound.length) {
                sound = Arrays.copyOf(sound, Math.max(last + 1, 2 * sound.length));
            }
            for (int n = judged + 1; n <= last; n++) {
                sound[n] = partsAreSound(n) && goalFits(n) ? 1 : 0;
                gatherRests(n);
            }
            judged = last;
        }

        private boolean partsAreSound(int n) {
            int parts = partsOf(kept.get(n, 0));
            for (int k = 1; k <= parts; k++) {
                int part = kept.get(n, 1 + k);
                if (part < 1 || part >= n || sound[part] != 1) {
                    return false;
                }
            }
            return true;
        }

        private boolean goalFits(int n) {
            int goal = goalOf(n);
            int one = goalOf(kept.get(n, 2));
            int two = goalOf(kept.get(n, 3));
            int three = goalOf(kept.get(n, 4));
            switch (kept.get(n, 0)) {
                case GIVEN: return true;
                case LAMBDA: return isWhole(IMPLIES, goal, statementStore.leftOf(goal), one);
                case APPLIED: return isWhole(IMPLIES, one, two, goal);
                case PAIR: return isWhole(AND, goal, one, two);
                case FIRST: return isWhole(AND, one, goal, statementStore.rightOf(one));
                case SECOND: return isWhole(AND, one, statementStore.leftOf(one), goal);
                case LEFT: return isWhole(OR, goal, one, statementStore.rightOf(goal));
                case RIGHT: return isWhole(OR, goal, statementStore.leftOf(goal), one);
                case CASES: return statementStore.isOf(OR, one) && two == goal && three == goal;
                case ABSURD: return statementStore.isOf(FALSE, one);
                default: return false;
            }
        }

        private boolean isWhole(int sort, int f, int left, int right) {
            return statementStore.isOf(sort, f)
                    && statementStore.leftOf(f) == left && statementStore.rightOf(f) == right;
        }

        private void gatherRests(int n) {
            int goal = goalOf(n);
            int first = kept.get(n, 2);
            int either = goalOf(first);
            int tag = kept.get(n, 0);
            if (tag == GIVEN) {
                rested.add(n, goal);
            } else if (tag == LAMBDA) {
                boolean leaves = statementStore.isOf(IMPLIES, goal);
                rested.merge(n, first, leaves ? statementStore.leftOf(goal) : 0);
            } else {
                // Row 0 is empty, so parts that are not there add nothing.
                boolean leaves = tag == CASES && statementStore.isOf(OR, either);
                rested.merge(n, first, 0);
                rested.merge(n, kept.get(n, 3), leaves ? statementStore.leftOf(either) : 0);
                rested.merge(n, kept.get(n, 4), leaves ? statementStore.rightOf(either) : 0);
            }
        }
    }

    /**
     * What the search has come to: a step for each sequent it looked at, numbered from 1. A step's
     * WAY is the rule it went by and the given statement that the rule takes up (0 if it takes up
     * none), in one number so that "no way" can be 0.
     */
    private static final class Derivation {
        static final int GOAL_IS_GIVEN = 1;
        static final int FALSE_IS_GIVEN = 2;
        static final int GOAL_IS_AND = 3;
        static final int GOAL_IS_IMPLIES = 4;
        static final int TAKES_AND = 5;
        static final int TAKES_OR = 6;
        static final int TAKES_FIRED = 7;
        static final int TAKES_FROM_FALSE = 8;
        static final int TAKES_FROM_AND = 9;
        static final int TAKES_FROM_OR = 10;
        // The document's rule 11 is three ways of going on.
        static final int CHOOSES_LEFT = 11;
        static final int CHOOSES_RIGHT = 12;
        static final int CHOOSES_NESTED = 13;

        /** By rule, how many sequents it leads to. */
        private static final int[] PREMISES = {0, 0, 0, 2, 1, 1, 2, 1, 1, 1, 1, 1, 1, 2};
        /** Of a step: its goal, its way, and the steps of its sequents. */
        private static final int WIDTH = 4;

        private int[] cells = new int[16 * WIDTH];

        static int way(int rule, int taken) {
            return taken << 4 | rule;
        }

        static int ruleOf(int way) {
            return way & 15;
        }

        static int takenBy(int way) {
            return way >> 4;
        }

        static int premisesOf(int rule) {
            return rule >= 0 && rule < PREMISES.length ? PREMISES[rule] : 0;
        }

        int goalOf(int step) {
            return read(step, 0);
        }

        int wayOf(int step) {
            return read(step, 1);
        }

        /** The step of the k-th sequent, k being 1 or 2. */
        int premiseOf(int step, int k) {
            return read(step, 1 + k);
        }

        void begin(int step, int goal) {
            write(step, 0, goal);
        }

        void setWay(int step, int way) {
            write(step, 1, way);
        }

        void setPremise(int step, int k, int premise) {
            write(step, 1 + k, premise);
        }

        private int read(int step, int column) {
            int at = step * WIDTH + column;
            return at >= 0 && at < cells.length ? cells[at] : 0;
        }

        private void write(int step, int column, int value) {
            if (step < 0 || step > MOST_FUEL || column < 0 || column >= WIDTH) {
                return;
            }
            int at = step * WIDTH + column;
            if (at >= cells.length) {
                cells = Arrays.copyOf(cells, Math.max(at + WIDTH, 2 * cells.length));
            }
            cells[at] = value;
        }
    }

    /** The search; what it finds is left in the derivation. */
    private static final class Search {
        private static final int MOST_WAYS = MOST_STATEMENTS + 2;

        private final StatementStore statementStore;
        private final Derivation derivation;
        /** By depth, the given statements of the sequent that is looked at there. */
        private final Sets given = new Sets(DEEPEST + 2);
        private int fuel = 0;
        private int spent = 0;

        Search(StatementStore statementStore, Derivation derivation) {
            this.statementStore = statementStore;
            this.derivation = derivation;
        }

        int fuelSpent() {
            return spent;
        }

        /** The step that proves f from nothing; or NO, OUT, FULL. */
        int run(int f, int fuelGiven) {
            fuel = fuelGiven;
            spent = 0;
            given.clear(1);
            int answer = look(f, 1);
            if (answer == OUT) {
                spent = fuel;
            }
            return answer;
        }

        private int look(int goal, int depth) {
            if (depth > DEEPEST || spent >= fuel) {
                return OUT;
            }
            spent++;
            int step = spent;
            derivation.begin(step, goal);
            int way = firstWay(goal, depth);
            for (int tries = 0; way != 0 && tries < MOST_WAYS; tries++) {
                int answer = follow(step, way, depth);
                if (answer != NO) {
                    return answer;
                }
                way = nextWay(way, depth);
            }
            return NO;
        }

        /** The step itself if all sequents that its way leads to are proved; or NO, OUT, FULL. */
        private int follow(int step, int way, int depth) {
            derivation.setWay(step, way);
            int goal = derivation.goalOf(step);
            int rule = Derivation.ruleOf(way);
            int f = Derivation.takenBy(way);
            int premises = Derivation.premisesOf(rule);
            for (int k = 1; k <= premises; k++) {
                given.copy(depth, depth + 1);
                given.remove(depth + 1, f);
                if (!bringNew(rule, k, f, depth + 1)) {
                    return FULL;
                }
                bringParts(rule, k, rule == Derivation.GOAL_IS_IMPLIES ? goal : f, depth + 1);
                int answer = look(goalOfPremise(rule, k, f, goal), depth + 1);
                if (answer < 0) {
                    return answer;
                }
                derivation.setPremise(step, k, answer);
            }
            return step;
        }

        private int firstWay(int goal, int depth) {
            int way = wayByGoal(goal, depth);
            if (way == 0) {
                way = wayByGiven(depth);
            }
            if (way == 0 && statementStore.sortOf(goal) == OR) {
                way = Derivation.way(Derivation.CHOOSES_LEFT, 0);
            }
            return way != 0 ? way : nestedAbove(depth, 0);
        }

        private int nextWay(int way, int depth) {
            switch (Derivation.ruleOf(way)) {
                case Derivation.CHOOSES_LEFT: return Derivation.way(Derivation.CHOOSES_RIGHT, 0);
                case Derivation.CHOOSES_RIGHT: return nestedAbove(depth, 0);
                case Derivation.CHOOSES_NESTED: return nestedAbove(depth, Derivation.takenBy(way));
                default: return 0;
            }
        }

        /** The document's rules 1 to 4. */
        private int wayByGoal(int goal, int depth) {
            if (given.has(depth, goal)) {
                return Derivation.way(Derivation.GOAL_IS_GIVEN, 0);
            }
            int bottom = leastOfKind(depth, FALSE, 0);
            if (bottom != 0) {
                return Derivation.way(Derivation.FALSE_IS_GIVEN, bottom);
            }
            switch (statementStore.sortOf(goal)) {
                case AND: return Derivation.way(Derivation.GOAL_IS_AND, 0);
                case IMPLIES: return Derivation.way(Derivation.GOAL_IS_IMPLIES, 0);
                default: return 0;
            }
        }

        /** The document's rules 5 to 10. */
        private int wayByGiven(int depth) {
            int f = leastOfKind(depth, AND, 0);
            if (f != 0) {
                return Derivation.way(Derivation.TAKES_AND, f);
            }
            f = leastOfKind(depth, OR, 0);
            if (f != 0) {
                return Derivation.way(Derivation.TAKES_OR, f);
            }
            f = leastFired(depth);
            if (f != 0) {
                return Derivation.way(Derivation.TAKES_FIRED, f);
            }
            f = leastOfKind(depth, StatementStore.FROM + FALSE, 0);
            if (f != 0) {
                return Derivation.way(Derivation.TAKES_FROM_FALSE, f);
            }
            f = leastOfKind(depth, StatementStore.FROM + AND, 0);
            if (f != 0) {
                return Derivation.way(Derivation.TAKES_FROM_AND, f);
            }
            f = leastOfKind(depth, StatementStore.FROM + OR, 0);
            return f != 0 ? Derivation.way(Derivation.TAKES_FROM_OR, f) : 0;
        }

        private int nestedAbove(int depth, int above) {
            int f = leastOfKind(depth, StatementStore.FROM + IMPLIES, above);
            return f != 0 ? Derivation.way(Derivation.CHOOSES_NESTED, f) : 0;
        }

        /** The least given implication from something that is given; 0 if there is none. */
        private int leastFired(int depth) {
            Sets kinds = statementStore.byKind();
            int f = given.leastShared(depth, kinds, IMPLIES, 0);
            for (int seen = 0; f != 0 && seen < MOST_STATEMENTS; seen++) {
                if (given.has(depth, statementStore.leftOf(f))) {
                    return f;
                }
                f = given.leastShared(depth, kinds, IMPLIES, f);
            }
            return 0;
        }

        private int leastOfKind(int depth, int kind, int above) {
            return given.leastShared(depth, statementStore.byKind(), kind, above);
        }

        /** Makes the implications that come by a rule, and gives them; false if room lacks. */
        private boolean bringNew(int rule, int k, int f, int depth) {
            int from = statementStore.leftOf(f);
            int c = statementStore.leftOf(from);
            int d = statementStore.rightOf(from);
            int end = statementStore.rightOf(f);
            int g = 0;
            int h = 0;
            if (rule == Derivation.TAKES_FROM_AND) {
                int inner = statementStore.make(IMPLIES, d, end);
                g = inner == FULL ? FULL : statementStore.make(IMPLIES, c, inner);
            } else if (rule == Derivation.TAKES_FROM_OR) {
                g = statementStore.make(IMPLIES, c, end);
                h = g == FULL ? FULL : statementStore.make(IMPLIES, d, end);
            } else if (rule == Derivation.CHOOSES_NESTED && k == 1) {
                g = statementStore.make(IMPLIES, d, end);
            }
            given.add(depth, g);
            given.add(depth, h);
            return g != FULL && h != FULL;
        }

        /** Gives those parts of a statement that come by a rule. */
        private void bringParts(int rule, int k, int whole, int depth) {
            boolean left = rule == Derivation.GOAL_IS_IMPLIES || rule == Derivation.TAKES_AND
                    || rule == Derivation.TAKES_OR && k == 1;
            boolean right = rule == Derivation.TAKES_AND || rule == Derivation.TAKES_FIRED
                    || rule == Derivation.TAKES_OR && k == 2
                    || rule == Derivation.CHOOSES_NESTED && k == 2;
            if (left) {
                given.add(depth, statementStore.leftOf(whole));
            }
            if (right) {
                given.add(depth, statementStore.rightOf(whole));
            }
        }

        private int goalOfPremise(int rule, int k, int f, int goal) {
            switch (rule) {
                case Derivation.GOAL_IS_AND:
                    return k == 1 ? statementStore.leftOf(goal) : statementStore.rightOf(goal);
                case Derivation.CHOOSES_LEFT:
                    return statementStore.leftOf(goal);
                case Derivation.GOAL_IS_IMPLIES:
                case Derivation.CHOOSES_RIGHT:
                    return statementStore.rightOf(goal);
                case Derivation.CHOOSES_NESTED:
                    return k == 1 ? statementStore.leftOf(f) : goal;
                default:
                    return goal;
            }
        }
    }

    /** Makes the nodes of a proof that the search found. */
    private static final class ProofMaker {
        private final StatementStore statementStore;
        private final NodeStore nodeStore;
        private final Derivation derivation;
        /** Once there was no room nothing more is made, whatever is still asked for. */
        private boolean full = false;

        ProofMaker(StatementStore statementStore, NodeStore nodeStore, Derivation derivation) {
            this.statementStore = statementStore;
            this.nodeStore = nodeStore;
            this.derivation = derivation;
        }

        /** The node for a step, or FULL. */
        int makeAll(int step) {
            full = false;
            return build(step, 1);
        }

        // Java works out arguments from left to right, which is the order the document asks for.
        private int build(int step, int depth) {
            if (full || depth > DEEPEST) {
                return FULL;
            }
            int goal = derivation.goalOf(step);
            int f = Derivation.takenBy(derivation.wayOf(step));
            int one = derivation.premiseOf(step, 1);
            int two = derivation.premiseOf(step, 2);
            int below = depth + 1;
            switch (Derivation.ruleOf(derivation.wayOf(step))) {
                case Derivation.GOAL_IS_GIVEN:
                    return given(goal);
                case Derivation.FALSE_IS_GIVEN:
                    return make(ABSURD, goal, given(f), 0, 0);
                case Derivation.GOAL_IS_AND:
                    return make(PAIR, goal, build(one, below), build(two, below), 0);
                case Derivation.GOAL_IS_IMPLIES:
                    return lambda(statementStore.leftOf(goal), build(one, below));
                case Derivation.TAKES_AND:
                    return unpack(f, build(one, below));
                case Derivation.TAKES_OR:
                    return make(CASES, goal, given(f), build(one, below), build(two, below));
                case Derivation.TAKES_FIRED:
                    return fire(f, build(one, below));
                case Derivation.TAKES_FROM_FALSE:
                    return build(one, below);
                case Derivation.TAKES_FROM_AND:
                    return uncurry(f, build(one, below));
                case Derivation.TAKES_FROM_OR:
                    return rejoin(f, build(one, below));
                case Derivation.CHOOSES_LEFT:
                    return make(LEFT, goal, build(one, below), 0, 0);
                case Derivation.CHOOSES_RIGHT:
                    return make(RIGHT, goal, build(one, below), 0, 0);
                case Derivation.CHOOSES_NESTED:
                    return nest(f, lambda(statementStore.rightOf(f), build(two, below)), given(f),
                            build(one, below));
                default:
                    return FULL;
            }
        }

        private int unpack(int f, int t) {
            int a = statementStore.leftOf(f);
            int b = statementStore.rightOf(f);
            return apply(
                    apply(lambda(a, lambda(b, t)), make(FIRST, a, given(f), 0, 0)),
                    make(SECOND, b, given(f), 0, 0));
        }

        private int fire(int f, int t) {
            return apply(
                    lambda(statementStore.rightOf(f), t),
                    apply(given(f), given(statementStore.leftOf(f))));
        }

        private int uncurry(int f, int t) {
            int both = statementStore.leftOf(f);
            int c = statementStore.leftOf(both);
            int d = statementStore.rightOf(both);
            int g = implication(c, implication(d, statementStore.rightOf(f)));
            return apply(
                    lambda(g, t),
                    lambda(c, lambda(d, apply(given(f), make(PAIR, both, given(c), given(d), 0)))));
        }

        private int rejoin(int f, int t) {
            int either = statementStore.leftOf(f);
            int c = statementStore.leftOf(either);
            int d = statementStore.rightOf(either);
            int g = implication(c, statementStore.rightOf(f));
            int h = implication(d, statementStore.rightOf(f));
            return apply(
                    apply(
                            lambda(g, lambda(h, t)),
                            lambda(c, apply(given(f), make(LEFT, either, given(c), 0, 0)))),
                    lambda(d, apply(given(f), make(RIGHT, either, given(d), 0, 0))));
        }

        /** The whole for rule 11, of the lambda over the end, the node that gives f, and t. */
        private int nest(int f, int overEnd, int givenF, int t) {
            int inner = statementStore.leftOf(f);
            int c = statementStore.leftOf(inner);
            int d = statementStore.rightOf(inner);
            int g = implication(d, statementStore.rightOf(f));
            int proofOfInner =
                    apply(lambda(g, t), lambda(d, apply(given(f), lambda(c, given(d)))));
            return apply(overEnd, apply(givenF, proofOfInner));
        }

        /** One that the search has made already, as it was among the given ones. */
        private int implication(int from, int to) {
            return statementStore.find(IMPLIES, from, to);
        }

        private int given(int f) {
            return full ? FULL : noted(nodeStore.make(GIVEN, f, 0, 0, 0));
        }

        private int lambda(int from, int t) {
            if (full) {
                return FULL;
            }
            int goal = noted(statementStore.make(IMPLIES, from, nodeStore.goalOf(t)));
            return full ? FULL : noted(nodeStore.make(LAMBDA, goal, t, 0, 0));
        }

        private int apply(int t, int u) {
            int goal = statementStore.rightOf(nodeStore.goalOf(t));
            return full ? FULL : noted(nodeStore.make(APPLIED, goal, t, u, 0));
        }

        private int make(int tag, int goal, int a, int b, int c) {
            return full ? FULL : noted(nodeStore.make(tag, goal, a, b, c));
        }

        private int noted(int made) {
            full = made == FULL;
            return made;
        }
    }
}
