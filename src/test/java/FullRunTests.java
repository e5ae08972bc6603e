import java.util.Random;

/** Runs in which the room for statements or for nodes ends, held against the reference. */
public final class FullRunTests {
    private static final int AND = 2;
    private static final int OR = 3;
    private static final int IMPLIES = 4;
    private static final int MOST_STATEMENTS = 600;

    private static final Checks CHECKS = new Checks();

    public static void main(String[] args) {
        for (int target = 0; target < TARGETS; target++) {
            for (int room = 0; room <= 12; room++) {
                statementsEnd(target, room);
            }
        }
        for (int z = 0; z < 20; z++) {
            nodesEnd(z);
        }
        int ends = 0;
        for (int seed = 1; seed <= 300; seed++) {
            ends += statementsEndByChance(seed);
        }
        System.out.println("FULL " + ends);
        CHECKS.that("room ended in " + ends + " searches by chance", ends > 200);
        CHECKS.end();
    }

    private static final int TARGETS = 9;

    /** Statements whose proof, or the search for it, asks for new ones. */
    private static int target(Twins x, int which) {
        int a = x.atom(0);
        int b = x.atom(1);
        int c = x.atom(2);
        int d = x.atom(3);
        switch (which) {
            case 0: return x.join(IMPLIES, x.join(IMPLIES, x.join(AND, a, b), c), d);
            case 1: return x.join(IMPLIES, x.join(IMPLIES, x.join(OR, a, b), c), d);
            case 2: return x.join(IMPLIES, x.join(IMPLIES, x.join(IMPLIES, a, b), c), d);
            case 3: return x.join(IMPLIES, x.join(AND, a, b), x.join(AND, b, a));
            case 4: return x.join(IMPLIES, x.join(IMPLIES, x.join(AND, a, b), c),
                    x.join(IMPLIES, b, x.join(IMPLIES, a, c)));
            case 5: return x.join(IMPLIES, x.join(IMPLIES, x.join(OR, a, b), c),
                    x.join(AND, x.join(IMPLIES, b, c), x.join(IMPLIES, a, c)));
            case 6: return x.join(IMPLIES, x.join(IMPLIES, x.join(IMPLIES, a, b), c),
                    x.join(IMPLIES, b, c));
            case 7: {
                int none = x.falsehood();
                int either = x.join(OR, a, x.join(IMPLIES, a, none));
                return x.join(IMPLIES, x.join(IMPLIES, either, none), none);
            }
            default: {
                int peirce = x.join(IMPLIES, x.join(IMPLIES, x.join(IMPLIES, a, b), a), a);
                return x.join(IMPLIES, x.join(IMPLIES, peirce, b), b);
            }
        }
    }

    /** Leaves room for so many statements, then proves, twice. */
    private static void statementsEnd(int which, int room) {
        Twins x = new Twins(CHECKS, "target " + which + " with room for " + room + " statements");
        int f = target(x, which);
        fillStatements(x, MOST_STATEMENTS - room);
        CHECKS.due("statements before the proof", x.statements(), MOST_STATEMENTS - room);
        int answer = x.prove(f, 3000);
        x.used();
        x.statements();
        x.nodes();
        if (room == 0) {
            CHECKS.due("proof of target " + which + " without room", answer, ProofSeeker.FULL);
            CHECKS.due("a statement that is there", x.atom(0), 1);
            CHECKS.due("one that is not", x.join(AND, x.statements(), x.statements()),
                    ProofSeeker.FULL);
            CHECKS.due("a wrong one", x.join(5, 1, 1), ProofSeeker.BAD);
        }
        x.prove(f, 3000);
        x.used();
        CHECKS.that("within 512 calls", x.calls() <= 512);
        x.compareAll();
    }

    /** Statements by chance, proved with little room: how many of them end in FULL. */
    private static int statementsEndByChance(int seed) {
        Random random = new Random(seed);
        Twins x = new Twins(CHECKS, "by chance " + seed);
        int[] targets = new int[6];
        for (int k = 0; k < targets.length; k++) {
            targets[k] = formula(x, random, 3 + random.nextInt(2));
        }
        fillStatements(x, MOST_STATEMENTS - random.nextInt(5));
        int ends = 0;
        for (int f : targets) {
            ends += x.prove(f, random.nextInt(3) == 0 ? random.nextInt(30) : 3000)
                    == ProofSeeker.FULL ? 1 : 0;
            x.used();
            x.statements();
            x.nodes();
        }
        CHECKS.that("within 512 calls: " + x.calls(), x.calls() <= 512);
        x.compareAll();
        return ends;
    }

    private static int formula(Twins x, Random random, int depth) {
        if (depth == 0 || random.nextInt(6) == 0) {
            return random.nextInt(6) == 0 ? x.falsehood() : x.atom(random.nextInt(4));
        }
        int a = formula(x, random, depth - 1);
        int b = formula(x, random, depth - 1);
        int sort = random.nextInt(5);
        return x.join(sort < 2 ? AND + sort : IMPLIES, a, b);
    }

    /** A search from a long AND leaves two statements for each of its parts. */
    private static void fillStatements(Twins x, int wanted) {
        int all = x.atom(31);
        for (int i = 4; i < 31; i++) {
            all = x.join(AND, all, x.atom(i));
        }
        for (int i = 4; i < 31 && x.statements() < wanted - 70; i++) {
            int q = x.join(OR, x.atom(i), x.atom(i));
            x.prove(x.join(IMPLIES, x.join(IMPLIES, all, q), x.atom(31)), 3000);
        }
        int last = all;
        for (int k = 0; k < 200 && x.statements() < wanted; k++) {
            last = x.join(OR, last, all);
        }
    }

    /** Proofs that go through all cases of many ORs, till no node fits in any more. */
    private static void nodesEnd(int from) {
        Twins x = new Twins(CHECKS, "nodes end, from atom " + from);
        int n = 6;
        int answer = 0;
        for (int k = 0; k < 20 && answer != ProofSeeker.FULL; k++) {
            int z = x.atom(12 + (from + k) % 20);
            int swapped = x.join(OR, x.atom(1), x.atom(0));
            for (int i = 1; i < n; i++) {
                swapped = x.join(AND, swapped, x.join(OR, x.atom(2 * i + 1), x.atom(2 * i)));
            }
            int f = x.join(IMPLIES, x.join(IMPLIES, swapped, z), z);
            for (int i = 0; i < n; i++) {
                f = x.join(IMPLIES, x.join(OR, x.atom(2 * i), x.atom(2 * i + 1)), f);
            }
            answer = x.prove(f, 3000);
            x.used();
            x.nodes();
        }
        CHECKS.due("the last proof", answer, ProofSeeker.FULL);
        CHECKS.due("nodes", x.nodes(), 8000);
        CHECKS.due("a node that is there", x.node(x.of(7, 0), x.of(7, 1), x.of(7, 2), x.of(7, 3),
                x.of(7, 4)), 7);
        CHECKS.due("one that is not", x.node(3, 1, 8000, 8000, 0), ProofSeeker.FULL);
        CHECKS.due("a wrong one", x.node(3, 1, 8000, 8001, 0), ProofSeeker.BAD);
        CHECKS.that("within 512 calls", x.calls() <= 512);
        x.compareAll();
    }
}
