/**
 * A new object whose calls are counted and looked at. The document promises 512 calls of an object
 * and no more: a run that asks for another one shows nothing, and counts as wrong.
 */
final class Run {
    static final int AND = 2;
    static final int OR = 3;
    static final int IMPLIES = 4;
    static final int MOST_CALLS = 512;

    private final ProofSeeker seeker = new ProofSeeker();
    private final Checks checks;
    private final String name;
    private int calls = 0;
    private boolean isDue = false;
    private int due = 0;
    /** What can be counted, before a call that is to change nothing; null if it may. */
    private int[] before = null;

    Run(Checks checks, String name) {
        this.checks = checks;
        this.name = name;
    }

    /** What the next call is to answer. */
    Run due(int answer) {
        isDue = true;
        due = answer;
        return this;
    }

    /** What the next call is to answer, and that nothing is made by it and no fuel used. */
    Run refused(int answer) {
        before = counts();
        return due(answer);
    }

    int calls() {
        return calls;
    }

    private int[] counts() {
        calls += 3;
        return new int[] {seeker.statements(), seeker.nodes(), seeker.used()};
    }

    private int answered(String call, int got) {
        calls++;
        String told = name + ", call " + calls + ": " + call;
        if (isDue) {
            isDue = false;
            checks.due(told, got, due);
        }
        if (before != null) {
            int[] after = counts();
            checks.due("statements after " + told, after[0], before[0]);
            checks.due("nodes after " + told, after[1], before[1]);
            checks.due("used after " + told, after[2], before[2]);
            before = null;
        }
        checks.that(told + " is within the calls that are promised", calls <= MOST_CALLS);
        return got;
    }

    int atom(int i) {
        return answered("atom(" + i + ")", seeker.atom(i));
    }

    int falsehood() {
        return answered("falsehood()", seeker.falsehood());
    }

    int join(int sort, int a, int b) {
        return answered("join(" + sort + ", " + a + ", " + b + ")", seeker.join(sort, a, b));
    }

    int told(int f, int what) {
        return answered("told(" + f + ", " + what + ")", seeker.told(f, what));
    }

    int statements() {
        return answered("statements()", seeker.statements());
    }

    int nodes() {
        return answered("nodes()", seeker.nodes());
    }

    int prove(int f, int fuel) {
        return answered("prove(" + f + ", " + fuel + ")", seeker.prove(f, fuel));
    }

    int used() {
        return answered("used()", seeker.used());
    }

    int node(int tag, int goal, int a, int b, int c) {
        String call = "node(" + tag + ", " + goal + ", " + a + ", " + b + ", " + c + ")";
        return answered(call, seeker.node(tag, goal, a, b, c));
    }

    int of(int node, int what) {
        return answered("of(" + node + ", " + what + ")", seeker.of(node, what));
    }

    int wellMade(int node) {
        return answered("wellMade(" + node + ")", seeker.wellMade(node));
    }

    int rests(int node) {
        return answered("rests(" + node + ")", seeker.rests(node));
    }

    int restsOn(int node, int f) {
        return answered("restsOn(" + node + ", " + f + ")", seeker.restsOn(node, f));
    }

    int proves(int node) {
        return answered("proves(" + node + ")", seeker.proves(node));
    }

    int isTrue(int f, int atoms) {
        return answered("isTrue(" + f + ", " + atoms + ")", seeker.isTrue(f, atoms));
    }

    /** Makes a statement: a to z are atoms, 0 is FALSE; (p&q), (p|q), (p>q), and ~p for (p>0). */
    int read(String text) {
        return new Reader(text).next();
    }

    /** The sort and the parts of a statement, which three calls are to answer. */
    void statementIs(int f, int sort, int a, int b) {
        due(sort).told(f, 0);
        due(a).told(f, 1);
        due(b).told(f, 2);
    }

    /** The tag, the goal and the parts of a node; those that are not told are to be 0. */
    void nodeIs(int n, int... row) {
        for (int what = 0; what <= 4; what++) {
            due(what < row.length ? row[what] : 0).of(n, what);
        }
    }

    private final class Reader {
        private final String text;
        private int at = 0;

        Reader(String text) {
            this.text = text;
        }

        int next() {
            char c = text.charAt(at++);
            if (c == '0') {
                return falsehood();
            }
            if (c == '~') {
                int denied = next();
                return join(IMPLIES, denied, falsehood());
            }
            if (c != '(') {
                return atom(c - 'a');
            }
            int left = next();
            char sign = text.charAt(at++);
            int right = next();
            at++;
            return join(sign == '&' ? AND : sign == '|' ? OR : IMPLIES, left, right);
        }
    }
}
