/** A ProofSeeker and the reference, called alike; tells each call on which they differ. */
final class Twins {
    private final ProofSeeker seeker = new ProofSeeker();
    private final ReferenceSeeker reference = new ReferenceSeeker();
    private final Checks checks;
    private final String run;
    private int calls = 0;

    Twins(Checks checks, String run) {
        this.checks = checks;
        this.run = run;
    }

    int calls() {
        return calls;
    }

    private int same(String call, int got, int want) {
        calls++;
        checks.due(run + ", call " + calls + ": " + call, got, want);
        return got;
    }

    int atom(int i) {
        return same("atom(" + i + ")", seeker.atom(i), reference.atom(i));
    }

    int falsehood() {
        return same("falsehood()", seeker.falsehood(), reference.falsehood());
    }

    int join(int sort, int a, int b) {
        return same("join(" + sort + ", " + a + ", " + b + ")",
                seeker.join(sort, a, b), reference.join(sort, a, b));
    }

    int told(int f, int what) {
        return same("told(" + f + ", " + what + ")", seeker.told(f, what), reference.told(f, what));
    }

    int statements() {
        return same("statements()", seeker.statements(), reference.statements());
    }

    int nodes() {
        return same("nodes()", seeker.nodes(), reference.nodes());
    }

    int prove(int f, int fuel) {
        return same("prove(" + f + ", " + fuel + ")",
                seeker.prove(f, fuel), reference.prove(f, fuel));
    }

    int used() {
        return same("used()", seeker.used(), reference.used());
    }

    int node(int tag, int goal, int a, int b, int c) {
        return same("node(" + tag + ", " + goal + ", " + a + ", " + b + ", " + c + ")",
                seeker.node(tag, goal, a, b, c), reference.node(tag, goal, a, b, c));
    }

    int of(int node, int what) {
        return same("of(" + node + ", " + what + ")", seeker.of(node, what), reference.of(node, what));
    }

    int wellMade(int node) {
        return same("wellMade(" + node + ")", seeker.wellMade(node), reference.wellMade(node));
    }

    int rests(int node) {
        return same("rests(" + node + ")", seeker.rests(node), reference.rests(node));
    }

    int restsOn(int node, int f) {
        return same("restsOn(" + node + ", " + f + ")",
                seeker.restsOn(node, f), reference.restsOn(node, f));
    }

    int proves(int node) {
        return same("proves(" + node + ")", seeker.proves(node), reference.proves(node));
    }

    int isTrue(int f, int atoms) {
        return same("isTrue(" + f + ", " + atoms + ")",
                seeker.isTrue(f, atoms), reference.isTrue(f, atoms));
    }

    /** Every statement and node, whole: what is kept, not only what calls happen to ask. */
    void compareAll() {
        int statements = statements();
        for (int f = 1; f <= statements + 1; f++) {
            for (int what = 0; what <= 2; what++) {
                told(f, what);
            }
        }
        int nodes = nodes();
        for (int n = 1; n <= nodes + 1; n++) {
            for (int what = 0; what <= 4; what++) {
                of(n, what);
            }
            wellMade(n);
            rests(n);
            int f = restsOn(n, 0);
            for (int k = 0; f > 0 && k < 600; k++) {
                f = restsOn(n, f);
            }
            proves(n);
        }
        used();
    }
}
