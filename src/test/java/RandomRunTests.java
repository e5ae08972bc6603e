import java.util.Random;

/** Runs of calls by chance (always the same ones), each answer held against the reference. */
public final class RandomRunTests {
    private static final int RUNS = 1500;
    private static final int[] ODD = {
        0, -1, 1, 32, 31, 3000, 3001, 600, 601, 640, 8000, 8001,
        Integer.MIN_VALUE, Integer.MAX_VALUE, -64, 64
    };

    private final Checks checks = new Checks();
    private int found = 0;
    private int none = 0;
    private int out = 0;

    public static void main(String[] args) {
        new RandomRunTests().runAll();
    }

    private void runAll() {
        for (int seed = 1; seed <= RUNS && checks.wrongOnes() < 50; seed++) {
            Random random = new Random(seed);
            Twins x = new Twins(checks, "random run " + seed);
            int atoms = 1 + random.nextInt(random.nextBoolean() ? 4 : 12);
            boolean deep = seed % 5 == 0;
            while (x.calls() < 512) {
                step(x, random, atoms, deep);
            }
            x.compareAll();
        }
        System.out.println("proved " + found + ", NO " + none + ", OUT " + out);
        checks.that("proofs, NO and OUT came up", found > 1000 && none > 1000 && out > 100);
        checks.end();
    }

    private void step(Twins x, Random random, int atoms, boolean deep) {
        int statements = x.statements();
        int nodes = x.nodes();
        switch (random.nextInt(12)) {
            case 0:
                x.atom(random.nextInt(8) == 0 ? odd(random) : random.nextInt(atoms));
                break;
            case 1:
                if (random.nextInt(4) == 0) {
                    x.falsehood();
                }
                break;
            case 2: case 3: case 4:
                x.join(random.nextInt(20) == 0 ? odd(random) : sort(random),
                        pick(random, statements), pick(random, statements));
                break;
            case 5: case 6:
                proveSomething(x, random, atoms, deep);
                break;
            case 7: case 8:
                nodeLikely(x, random, statements, nodes);
                break;
            case 9:
                x.node(random.nextInt(10), pick(random, statements),
                        pick(random, nodes), pick(random, nodes), pick(random, nodes));
                break;
            default:
                ask(x, random, statements, nodes);
        }
    }

    private static int sort(Random random) {
        int any = random.nextInt(5);
        return any < 2 ? 2 + any : any == 2 ? 2 + random.nextInt(3) : 4;
    }

    private static int odd(Random random) {
        return ODD[random.nextInt(ODD.length)];
    }

    private static int pick(Random random, int most) {
        return random.nextInt(25) == 0 || most == 0 ? odd(random) : 1 + random.nextInt(most);
    }

    private void proveSomething(Twins x, Random random, int atoms, boolean deep) {
        int f = random.nextInt(5) == 0 ? pick(random, x.statements())
                : formula(x, random, atoms, 2 + random.nextInt(deep ? 6 : 4));
        int fuel = random.nextInt(4) == 0 ? random.nextInt(30)
                : random.nextInt(20) == 0 ? odd(random) : random.nextInt(3001);
        int answer = x.prove(f, fuel);
        found += answer > 0 ? 1 : 0;
        none += answer == ProofSeeker.NO ? 1 : 0;
        out += answer == ProofSeeker.OUT ? 1 : 0;
        x.used();
        if (answer > 0) {
            checks.due("goal of what was proved", x.of(answer, 1), f);
            checks.due("proves of what was proved", x.proves(answer), 1);
            for (int k = 0; k < 4; k++) {
                checks.due("truth of what was proved", x.isTrue(f, random.nextInt()), 1);
            }
        }
    }

    private static int formula(Twins x, Random random, int atoms, int depth) {
        if (depth == 0 || random.nextInt(6) == 0) {
            return random.nextInt(7) == 0 ? x.falsehood() : x.atom(random.nextInt(atoms));
        }
        int a = formula(x, random, atoms, depth - 1);
        int b = random.nextInt(8) == 0 ? x.falsehood() : formula(x, random, atoms, depth - 1);
        return x.join(sort(random), a, b);
    }

    /** A node whose goal has a chance to fit its parts. */
    private static void nodeLikely(Twins x, Random random, int statements, int nodes) {
        int a = pick(random, nodes);
        int b = pick(random, nodes);
        int c = pick(random, nodes);
        int goalA = x.of(a, 1);
        int goalB = x.of(b, 1);
        int any = pick(random, statements);
        switch (random.nextInt(10)) {
            case 0: x.node(0, any, a, b, c); break;
            case 1: x.node(1, x.join(4, any, goalA), a, b, c); break;
            case 2: x.node(2, x.told(goalA, 2), a, x.node(0, x.told(goalA, 1), 0, 0, 0), c); break;
            case 3: x.node(3, x.join(2, goalA, goalB), a, b, c); break;
            case 4: x.node(4, x.told(goalA, 1), a, b, c); break;
            case 5: x.node(5, x.told(goalA, 2), a, b, c); break;
            case 6: x.node(6, x.join(3, goalA, any), a, b, c); break;
            case 7: x.node(7, x.join(3, any, goalA), a, b, c); break;
            case 8: x.node(8, goalB, a, b, random.nextBoolean() ? b : c); break;
            default: x.node(9, any, a, b, c); break;
        }
    }

    private static void ask(Twins x, Random random, int statements, int nodes) {
        int f = pick(random, statements);
        int n = pick(random, nodes);
        int what = random.nextInt(7) - 1;
        switch (random.nextInt(8)) {
            case 0: x.told(f, what); break;
            case 1: x.of(n, what); break;
            case 2: x.wellMade(n); break;
            case 3: x.rests(n); break;
            case 4: x.restsOn(n, random.nextInt(3) == 0 ? odd(random) : random.nextInt(40)); break;
            case 5: x.proves(n); break;
            case 6: x.isTrue(f, random.nextInt()); break;
            default: x.used(); break;
        }
    }
}
