import java.util.Random;

/** What logic itself says of the answers, whatever way the search goes. */
public final class LogicTests {
    private static final int AND = 2;
    private static final int OR = 3;
    private static final int IMPLIES = 4;
    private static final int ATOMS = 3;

    private static final Checks CHECKS = new Checks();

    public static void main(String[] args) {
        knownOnes();
        int decided = 0;
        for (int seed = 1; seed <= 4000; seed++) {
            decided += chance(new Random(seed), seed) ? 1 : 0;
        }
        CHECKS.that("most searches end with fuel left", decided > 3600);
        CHECKS.end();
    }

    private static void knownOnes() {
        String[] theorems = {
            "(a>a)", "(a>(b>a))", "(0>a)", "((a&b)>(b&a))", "((a|b)>(b|a))", "(a>~~a)", "(~~~a>~a)",
            "~~(a|~a)", "((a>b)>(~b>~a))", "(~(a|b)>(~a&~b))", "((~a&~b)>~(a|b))",
            "((~a|~b)>~(a&b))", "((a&(b|c))>((a&b)|(a&c)))", "(((a|b)>c)>((a>c)&(b>c)))",
            "~~(((a>b)>a)>a)", "~~((a>b)|(b>a))", "((a|~a)>(~~a>a))", "~(a&~a)", "~~(~~a>a)",
            "((((a>b)>a)>a)>((((a>b)>a)>a)&(c>c)))", "((~~a>~~b)>~~(a>b))", "(~~(a&b)>(~~a&~~b))",
            "(((((a>b)>a)>a)>b)>b)"
        };
        String[] others = {
            "a", "0", "~a", "(a|~a)", "(~~a>a)", "(((a>b)>a)>a)", "((a>b)|(b>a))", "(a|b)",
            "((~b>~a)>(a>b))", "(~(a&b)>(~a|~b))", "(~a|~~a)", "((a>(b|c))>((a>b)|(a>c)))",
            "((a>b)>(~a|b))", "((~a>(b|c))>((~a>b)|(~a>c)))", "(a&b)", "(a>b)"
        };
        for (String text : theorems) {
            Run x = new Run(CHECKS, text);
            int answer = x.prove(x.read(text), 3000);
            x.due(1).proves(answer);
        }
        for (String text : others) {
            Run x = new Run(CHECKS, text);
            int f = x.read(text);
            x.due(ProofSeeker.NO).prove(f, 3000);
        }
    }

    private static int formula(ProofSeeker x, Random random, int depth) {
        if (depth == 0 || random.nextInt(7) == 0) {
            return random.nextInt(6) == 0 ? x.falsehood() : x.atom(random.nextInt(ATOMS));
        }
        int sort = random.nextInt(5);
        return x.join(sort < 2 ? 2 + sort : IMPLIES,
                formula(x, random, depth - 1), formula(x, random, depth - 1));
    }

    private static boolean isTautology(ProofSeeker x, int f) {
        for (int atoms = 0; atoms < 1 << ATOMS; atoms++) {
            if (x.isTrue(f, atoms) == 0) {
                return false;
            }
        }
        return true;
    }

    /** Whether the search for a statement by chance came to an end. */
    private static boolean chance(Random random, int seed) {
        ProofSeeker x = new ProofSeeker();
        String run = "statement " + seed;
        int f = formula(x, random, 4);
        int answer = x.prove(f, 3000);
        boolean tautology = isTautology(x, f);
        if (answer > 0) {
            CHECKS.that(run + " is true by all tables", tautology);
            CHECKS.due(run + ": proves", x.proves(answer), 1);
            CHECKS.due(run + ": goal", x.of(answer, 1), f);
            CHECKS.that(run + " holds in all models on a fork", holdsOnFork(x, f));
        }
        if (answer > 0 && x.told(f, 0) == OR) {
            CHECKS.that(run + ": a part is proved",
                    x.prove(x.told(f, 1), 3000) > 0 || x.prove(x.told(f, 2), 3000) > 0);
        }
        int none = x.falsehood();
        int twice = x.join(IMPLIES, x.join(IMPLIES, f, none), none);
        int proved = x.prove(twice, 3000);
        // By Glivenko what tables make true can be proved when it is denied twice.
        if (proved > 0 || proved == ProofSeeker.NO) {
            CHECKS.due(run + " denied twice", proved > 0 ? 1 : 0, tautology ? 1 : 0);
        }
        return answer > 0 || answer == ProofSeeker.NO;
    }

    /** Three worlds, 0 below 1 and 2: what is provable holds at 0 for all rising valuations. */
    private static boolean holdsOnFork(ProofSeeker x, int f) {
        for (int v = 0; v < 1 << 3 * ATOMS; v++) {
            int mask = (1 << ATOMS) - 1;
            int low = v & mask;
            int[] worlds = {low, low | v >> ATOMS & mask, low | v >> 2 * ATOMS & mask};
            if (!forced(x, f, worlds, 0)) {
                return false;
            }
        }
        return true;
    }

    private static boolean forced(ProofSeeker x, int f, int[] worlds, int at) {
        int a = x.told(f, 1);
        int b = x.told(f, 2);
        switch (x.told(f, 0)) {
            case 0: return (worlds[at] >> a & 1) == 1;
            case 1: return false;
            case AND: return forced(x, a, worlds, at) && forced(x, b, worlds, at);
            case OR: return forced(x, a, worlds, at) || forced(x, b, worlds, at);
            default: break;
        }
        for (int above = 0; above < 3; above++) {
            boolean sees = above == at || at == 0;
            if (sees && forced(x, a, worlds, above) && !forced(x, b, worlds, above)) {
                return false;
            }
        }
        return true;
    }
}
