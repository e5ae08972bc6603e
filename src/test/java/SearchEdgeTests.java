/**
 * The edges of the search: fuel that just suffices and fuel that just lacks, a sequent 80 deep and
 * one that would lie deeper, for each rule; and that what ends a search ends all of it. The
 * document's sentence stands above each test.
 */
public final class SearchEdgeTests {
    private static final int NO = ProofSeeker.NO;
    private static final int OUT = ProofSeeker.OUT;
    private static final int MOST_FUEL = 3000;
    private static final int DEEPEST = 80;

    private static final Checks CHECKS = new Checks();

    public static void main(String[] args) {
        for (Example example : Example.ALL) {
            fuelSuffices(example);
            depthSuffices(example, true);
            // What stands at the left there is two deep itself.
            if (example.depth() >= 2) {
                depthSuffices(example, false);
            }
        }
        allFuel();
        fuelBeforeLooking();
        deepImplications();
        deepAndShortOfFuel();
        outEndsAll();
        secondIsNotLookedAt();
        comesBeforeFuel();
        comesBeforeDepth();
        whatCameStays();
        onlyWhatIsNotThereIsMade();
        CHECKS.end();
    }

    private static Run run(String name) {
        return new Run(CHECKS, name);
    }

    // "Each that is looked at costs one of FUEL, before it; ... for which fuel lacks: OUT."

    private static void fuelSuffices(Example example) {
        Run x = run("fuel for " + example.name());
        int f = x.read(example.text());
        for (int fuel = 0; fuel < example.fuel(); fuel++) {
            x.due(OUT).prove(f, fuel);
            x.due(fuel).used();
            x.due(0).nodes();
        }
        x.due(example.answer()).prove(f, example.fuel());
        x.due(example.fuel()).used();
        x.due(example.nodes()).nodes();
        x.due(example.answer()).prove(f, example.fuel() + 1);
        x.due(example.fuel()).used();
    }

    // "one that lies more than 80 deep (the first one is 1 deep)"

    /** Each AND round an example lays it one deeper, with nothing given, as it is by itself. */
    private static void depthSuffices(Example example, boolean left) {
        Run x = run("depth for " + example.name() + (left ? " at the left" : " at the right"));
        int f = x.read(example.text());
        int same = x.read("(z>z)");
        int around = DEEPEST - example.depth();
        for (int k = 1; k <= around; k++) {
            f = left ? x.join(Run.AND, f, same) : x.join(Run.AND, same, f);
        }
        // Of an AND whose first part has no proof the second is not looked at.
        boolean bare = left && !example.isProvable();
        int used = example.fuel() + (bare ? around : 3 * around);
        int answer = x.prove(f, MOST_FUEL);
        CHECKS.that(example.name() + " 80 deep", example.isProvable() ? answer > 0 : answer == NO);
        x.due(used).used();
        int deeper = left ? x.join(Run.AND, f, same) : x.join(Run.AND, same, f);
        x.due(OUT).prove(deeper, MOST_FUEL);
        x.due(MOST_FUEL).used();
    }

    // "fuel (0 .. 3000)", all of it.

    /** A statement whose proof looks at so many sequents, at least two. */
    private static int costing(Run x, int fuel) {
        int a = x.atom(0);
        if (fuel <= 4) {
            int f = a;
            for (int k = 1; k < fuel; k++) {
                f = x.join(Run.IMPLIES, a, f);
            }
            return f;
        }
        int half = (fuel - 1) / 2;
        int f = costing(x, half);
        return x.join(Run.AND, f, half == fuel - 1 - half ? f : x.join(Run.IMPLIES, a, f));
    }

    private static void allFuel() {
        Run x = run("all fuel");
        int just = costing(x, MOST_FUEL);
        int answer = x.prove(just, MOST_FUEL);
        x.due(MOST_FUEL).used();
        x.due(1).proves(answer);
        x.due(OUT).prove(just, MOST_FUEL - 1);
        x.due(MOST_FUEL - 1).used();
        Run y = run("more than all fuel");
        int more = costing(y, MOST_FUEL + 1);
        y.due(OUT).prove(more, MOST_FUEL);
        y.due(MOST_FUEL).used();
        y.due(0).nodes();
        Run z = run("all fuel in vain");
        int none = z.join(Run.AND, costing(z, MOST_FUEL - 3), z.read("(a>b)"));
        z.due(NO).prove(none, MOST_FUEL);
        z.due(MOST_FUEL).used();
        z.due(OUT).prove(none, MOST_FUEL - 1);
        z.due(MOST_FUEL - 1).used();
    }

    // "costs one of FUEL, before it"

    private static void fuelBeforeLooking() {
        Run x = run("no fuel");
        int[] all = {x.read("a"), x.read("0"), x.read("(a>a)"), x.read("(a&b)"), x.read("(a|b)")};
        for (int f : all) {
            x.due(OUT).prove(f, 0);
            x.due(0).used();
        }
        x.due(NO).prove(all[0], 1);
        x.due(1).used();
        x.due(NO).prove(all[1], 1);
        x.due(OUT).prove(all[2], 1);
        x.due(OUT).prove(all[3], 1);
        x.due(OUT).prove(all[4], 1);
        x.due(0).nodes();
    }

    // Promise 9: "all that it had when it was OUT, also because one would lie too deep"

    private static int chain(Run x, int from, int end, int links) {
        int f = end;
        for (int k = 0; k < links; k++) {
            f = x.join(Run.IMPLIES, from, f);
        }
        return f;
    }

    private static void deepImplications() {
        Run x = run("deep implications");
        int a = x.atom(0);
        int b = x.atom(1);
        int provable = chain(x, a, a, DEEPEST - 1);
        x.due(DEEPEST).prove(provable, DEEPEST);
        x.due(DEEPEST).used();
        x.due(1).proves(DEEPEST);
        int deeper = x.join(Run.IMPLIES, a, provable);
        x.due(OUT).prove(deeper, MOST_FUEL);
        x.due(MOST_FUEL).used();
        x.due(DEEPEST).nodes();
        int none = chain(x, a, b, DEEPEST - 1);
        x.due(NO).prove(none, MOST_FUEL);
        x.due(DEEPEST).used();
        int deeperNone = x.join(Run.IMPLIES, a, none);
        x.due(OUT).prove(deeperNone, MOST_FUEL);
        x.due(MOST_FUEL).used();
    }

    private static void deepAndShortOfFuel() {
        Run x = run("deep and short of fuel");
        int f = chain(x, x.atom(0), x.atom(1), DEEPEST);
        for (int fuel : new int[] {DEEPEST - 1, DEEPEST, DEEPEST + 1, DEEPEST + 2, MOST_FUEL}) {
            x.due(OUT).prove(f, fuel);
            x.due(fuel).used();
        }
        int lessDeep = chain(x, x.atom(0), x.atom(1), DEEPEST - 1);
        x.due(OUT).prove(lessDeep, DEEPEST - 1);
        x.due(DEEPEST - 1).used();
        x.due(NO).prove(lessDeep, DEEPEST);
        x.due(DEEPEST).used();
    }

    // "ends the search: OUT"

    /** The right part, or the next nested one, would give a proof: it is not come to. */
    private static void outEndsAll() {
        Run x = run("OUT ends all");
        int a = x.atom(0);
        int b = x.atom(1);
        int deep = chain(x, a, b, DEEPEST - 1);
        int same = x.read("(a>a)");
        int either = x.join(Run.OR, deep, same);
        x.due(OUT).prove(either, MOST_FUEL);
        x.due(MOST_FUEL).used();
        int notSoDeep = chain(x, a, b, DEEPEST - 2);
        int found = x.join(Run.OR, notSoDeep, same);
        int answer = x.prove(found, MOST_FUEL);
        x.due(1).proves(answer);
        x.due(1 + DEEPEST - 1 + 2).used();
        // The first nested one asks for a deep goal, the second is proved at once.
        int c = x.atom(2);
        int first = x.join(Run.IMPLIES, chain(x, a, b, DEEPEST - 3), c);
        int second = x.join(Run.IMPLIES, same, c);
        int goal = x.join(Run.IMPLIES, first, x.join(Run.IMPLIES, second, c));
        CHECKS.that("the deep one is the lesser", first < second);
        x.due(OUT).prove(goal, MOST_FUEL);
        x.due(MOST_FUEL).used();
    }

    // "(if there is none for A, B is not looked at; likewise below)"

    private static void secondIsNotLookedAt() {
        String deep = "(a>".repeat(DEEPEST) + "b" + ")".repeat(DEEPEST);
        Run x = run("the second is not looked at");
        int and = x.read("(c&" + deep + ")");
        x.due(NO).prove(and, MOST_FUEL);
        x.due(2).used();
        Run y = run("the second of a given OR is not looked at");
        int or = y.read("((a|b)>c)");
        y.due(NO).prove(or, 3);
        y.due(3).used();
        Run z = run("the second of a nested one is not looked at");
        int nested = z.read("(((a>b)>c)>d)");
        z.due(NO).prove(nested, 4);
        z.due(4).used();
    }

    // "Statements that come are made when they are wanted": before their sequent is looked at.

    private static void comesBeforeFuel() {
        for (Example example : Example.ALL) {
            if (example.comes() == 0) {
                continue;
            }
            Run x = run("what comes in " + example.name());
            int f = x.read(example.text());
            int there = x.statements();
            x.due(OUT).prove(f, example.by() - 1);
            x.due(there).statements();
            x.due(OUT).prove(f, example.by());
            x.due(there + example.comes()).statements();
            x.due(example.answer()).prove(f, MOST_FUEL);
            x.due(there + example.comes() + example.goals()).statements();
        }
    }

    private static void comesBeforeDepth() {
        Run x = run("what comes 80 deep");
        int f = x.read("(((c|d)>e)>b)");
        int a = x.atom(0);
        // The given OR is at hand 80 deep; the sequent that it leads to would lie deeper.
        f = chain(x, a, f, DEEPEST - 2);
        int there = x.statements();
        x.due(OUT).prove(f, MOST_FUEL);
        x.due(MOST_FUEL).used();
        x.due(there + 2).statements();
    }

    // "(g before h; in 9 D IMPLIES B before g)"; "They stay."

    /** The statements 1, 2 and 4 are a, b and c, those that came are 8 and 9. */
    private static void whatCameStays() {
        for (int fuel : new int[] {2, MOST_FUEL}) {
            int answer = fuel == 2 ? OUT : NO;
            Run x = searched("rule 9, fuel " + fuel, "(((a&b)>c)>d)", fuel, answer, 9);
            x.statementIs(8, Run.IMPLIES, 2, 4);
            x.statementIs(9, Run.IMPLIES, 1, 8);
            Run y = searched("rule 10, fuel " + fuel, "(((a|b)>c)>d)", fuel, answer, 9);
            y.statementIs(8, Run.IMPLIES, 1, 4);
            y.statementIs(9, Run.IMPLIES, 2, 4);
            Run z = searched("rule 11, fuel " + fuel, "(((a>b)>c)>d)", fuel, answer, 8);
            z.statementIs(8, Run.IMPLIES, 2, 4);
        }
    }

    private static Run searched(String name, String text, int fuel, int answer, int statements) {
        Run x = run("what came by " + name);
        int f = x.read(text);
        x.due(7).statements();
        x.due(answer).prove(f, fuel);
        x.due(statements).statements();
        return x;
    }

    // "if they are not there"

    private static void onlyWhatIsNotThereIsMade() {
        String[][] rows = {
            {"(((a&b)>c)>d)", "", "2"}, {"(((a&b)>c)>d)", "(b>c)", "1"},
            {"(((a&b)>c)>d)", "(a>(b>c))", "0"},
            {"(((a|b)>c)>d)", "", "2"}, {"(((a|b)>c)>d)", "(a>c)", "1"},
            {"(((a|b)>c)>d)", "(b>c)", "1"}, {"(((a|b)>c)>d)", "((a>c)&(b>c))", "0"},
            {"(((a|a)>c)>d)", "", "1"}, {"(((a>b)>c)>d)", "", "1"}, {"(((a>b)>c)>d)", "(b>c)", "0"}
        };
        for (String[] row : rows) {
            Run x = run("what comes in " + row[0] + " with " + row[1]);
            int f = x.read(row[0]);
            if (!row[1].isEmpty()) {
                x.read(row[1]);
            }
            int there = x.statements();
            x.due(NO).prove(f, MOST_FUEL);
            x.due(there + Integer.parseInt(row[2])).statements();
            x.due(NO).prove(f, MOST_FUEL);
            x.due(there + Integer.parseInt(row[2])).statements();
        }
    }
}
