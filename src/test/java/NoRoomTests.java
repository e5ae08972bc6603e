/**
 * No room left: the last statement and the last node that are made and the first that are not, by a
 * call, as a statement that comes in a search, as a node of a proof that was found, and as the
 * goal of one. The document's sentence stands above each test.
 */
public final class NoRoomTests {
    private static final int BAD = ProofSeeker.BAD;
    private static final int NO = ProofSeeker.NO;
    private static final int FULL = ProofSeeker.FULL;
    private static final int OUT = ProofSeeker.OUT;
    private static final int MOST_STATEMENTS = 600;
    private static final int MOST_NODES = 8000;
    private static final int GIVEN = 0;
    private static final int LAMBDA = 1;
    private static final int PAIR = 3;
    private static final int CASES = 8;
    private static final int ABSURD = 9;

    private static final Checks CHECKS = new Checks();

    public static void main(String[] args) {
        lastStatement();
        noStatementMore();
        askedOfTheLastStatement();
        restsOnTheLastStatements();
        leavesOutTheLastStatements();
        lastNode();
        noNodeMore();
        askedOfTheLastNode();
        for (Example example : Example.ALL) {
            for (int room = 0; room <= example.comes() + example.goals() + 1; room++) {
                roomForStatements(example, room);
            }
            for (int room = 0; room <= example.nodes() + 1; room++) {
                roomForNodes(example, room);
            }
            noRoomIsNeeded(example);
        }
        whichOfTwoIsMade();
        lastStatementIsGiven();
        fullEndsAll();
        fullBeforeFuelLacks();
        goalsOfOneProof();
        nodesOfOneProof();
        goalBeforeItsNode();
        CHECKS.end();
    }

    private static Run run(String name) {
        return new Run(CHECKS, name);
    }

    /** Makes statements of the atoms 4 to 31, till there is room for so many more. */
    private static void leaveStatements(Run x, int room) {
        int wanted = MOST_STATEMENTS - room;
        int all = x.atom(31);
        for (int i = 4; i < 31; i++) {
            all = x.join(Run.AND, all, x.atom(i));
        }
        // A search from a long AND leaves two statements for each of its parts.
        for (int i = 4; i < 31 && x.statements() < wanted - 70; i++) {
            int q = x.join(Run.OR, x.atom(i), x.atom(i));
            x.prove(x.join(Run.IMPLIES, x.join(Run.IMPLIES, all, q), x.atom(31)), 3000);
        }
        int last = all;
        while (x.calls() < Run.MOST_CALLS && x.statements() < wanted) {
            last = x.join(Run.OR, last, all);
        }
        x.due(wanted).statements();
    }

    /**
     * Makes nodes with goals of the atoms 4 to 31, till there is room for so many more: by proofs
     * that go through all cases of some ORs, and the rest one by one.
     */
    private static void leaveNodes(Run x, int room) {
        int wanted = MOST_NODES - room;
        int[] ors = new int[6];
        int[] swapped = new int[6];
        for (int i = 0; i < 6; i++) {
            int p = x.atom(5 + 2 * i);
            int q = x.atom(6 + 2 * i);
            ors[i] = x.join(Run.OR, p, q);
            int other = x.join(Run.OR, q, p);
            swapped[i] = i == 0 ? other : x.join(Run.AND, swapped[i - 1], other);
        }
        int[] sizes = {6, 6, 6, 6, 6, 4, 3};
        for (int k = 0; k < sizes.length; k++) {
            int z = x.atom(31 - k);
            int f = x.join(Run.IMPLIES, x.join(Run.IMPLIES, swapped[sizes[k] - 1], z), z);
            for (int i = 0; i < sizes[k]; i++) {
                f = x.join(Run.IMPLIES, ors[i], f);
            }
            x.prove(f, 3000);
        }
        int goal = x.statements();
        int left = wanted - x.nodes();
        for (int k = 0; k < left; k++) {
            x.node(CASES, goal - k, 1, 1, 1);
        }
        x.due(wanted).nodes();
    }

    // "STATEMENTS are kept once each, numbered from 1, at most 600"

    private static void lastStatement() {
        Run x = run("an atom as the last statement");
        leaveStatements(x, 1);
        x.due(600).atom(0);
        x.due(600).statements();
        x.refused(FULL).atom(1);
        x.refused(600).atom(0);
        Run y = run("FALSE as the last statement");
        leaveStatements(y, 1);
        y.due(600).falsehood();
        y.refused(FULL).atom(0);
        y.refused(600).falsehood();
        for (int sort = 2; sort <= 4; sort++) {
            Run z = run("a join of sort " + sort + " as the last statement");
            leaveStatements(z, 1);
            z.due(600).join(sort, 599, 599);
            z.refused(FULL).join(sort, 600, 600);
            z.refused(600).join(sort, 599, 599);
        }
    }

    // Promises 2, 3 and 4: "FULL"; what is there needs no room, and what is BAD stays so.

    private static void noStatementMore() {
        Run x = run("no room for a statement");
        leaveStatements(x, 0);
        x.due(600).statements();
        for (int i = 0; i < 4; i++) {
            x.refused(FULL).atom(i);
        }
        x.refused(1).atom(31);
        x.refused(BAD).atom(32);
        x.refused(BAD).atom(-1);
        x.refused(FULL).falsehood();
        x.refused(3).join(Run.AND, 1, 2);
        for (int sort = 2; sort <= 4; sort++) {
            x.refused(FULL).join(sort, 600, 600);
            x.refused(BAD).join(sort, 601, 1);
            x.refused(BAD).join(sort, 1, 601);
        }
        x.refused(BAD).join(1, 1, 1);
        x.refused(BAD).join(5, 1, 1);
        // Nodes have a room of their own.
        x.due(1).node(GIVEN, 600, 0, 0, 0);
    }

    private static void askedOfTheLastStatement() {
        Run x = run("asked of the last statement");
        leaveStatements(x, 2);
        x.due(599).atom(0);
        x.due(600).join(Run.IMPLIES, 599, 599);
        x.statementIs(600, Run.IMPLIES, 599, 599);
        x.due(1).isTrue(600, 0);
        x.due(0).isTrue(599, ~1);
        x.due(2).prove(600, 3000);
        x.nodeIs(2, LAMBDA, 600, 1);
        x.due(1).proves(2);
        x.refused(BAD).told(601, 0);
        x.refused(BAD).isTrue(601, -1);
        x.refused(BAD).prove(601, 3000);
        x.refused(BAD).node(GIVEN, 601, 0, 0, 0);
    }

    // Promises 13 and 14, of statements up to the last one.

    private static void restsOnTheLastStatements() {
        Run x = run("rests on the last statements");
        leaveStatements(x, 0);
        int[] on = {1, 63, 64, 65, 127, 128, 129, 575, 576, 577, 599, 600};
        int all = x.node(GIVEN, on[0], 0, 0, 0);
        for (int k = 1; k < on.length; k++) {
            all = x.node(PAIR, 1, all, x.node(GIVEN, on[k], 0, 0, 0), 0);
        }
        x.due(on.length).rests(all);
        for (int k = 0; k < on.length; k++) {
            x.due(on[k]).restsOn(all, k == 0 ? 0 : on[k - 1]);
            x.due(on[k]).restsOn(all, on[k] - 1);
            int alone = x.node(GIVEN, on[k], 0, 0, 0);
            x.due(1).rests(alone);
            x.due(on[k]).restsOn(alone, on[k] - 1);
            x.due(NO).restsOn(alone, on[k]);
        }
        x.due(NO).restsOn(all, 600);
        x.due(NO).restsOn(all, 601);
    }

    // "1 on what its part rests on, but A": that one alone, wherever it is kept.

    private static void leavesOutTheLastStatements() {
        Run x = run("leaves out the last statements");
        leaveStatements(x, 6);
        int[] on = {1, 64, 65, 129, 577, 594};
        int all = x.node(GIVEN, on[0], 0, 0, 0);
        for (int k = 1; k < on.length; k++) {
            all = x.node(PAIR, 1, all, x.node(GIVEN, on[k], 0, 0, 0), 0);
        }
        for (int out = 0; out < on.length; out++) {
            x.due(595 + out).join(Run.IMPLIES, on[out], 1);
            int n = x.node(LAMBDA, 595 + out, all, 0, 0);
            x.due(on.length - 1).rests(n);
            int last = 0;
            for (int k = 0; k < on.length; k++) {
                if (k != out) {
                    x.due(on[k]).restsOn(n, last);
                    last = on[k];
                }
            }
            x.due(NO).restsOn(n, last);
        }
    }

    // "PROOFS are nodes, kept once each, numbered from 1, at most 8000"

    private static void lastNode() {
        for (int tag = 0; tag <= 9; tag++) {
            Run x = run("tag " + tag + " as the last node");
            int a = x.atom(0);
            leaveNodes(x, 1);
            x.due(8000).node(tag, a, 1, 2, 3);
            x.due(8000).nodes();
            x.refused(FULL).node((tag + 1) % 10, a, 1, 2, 3);
            x.refused(8000).node(tag, a, 1, 2, 3);
        }
    }

    // Promise 10: "FULL"; what is there needs no room, and what is BAD stays so.

    private static void noNodeMore() {
        Run x = run("no room for a node");
        int a = x.atom(0);
        leaveNodes(x, 0);
        for (int tag = 0; tag <= 9; tag++) {
            x.refused(FULL).node(tag, a, 8000, 8000, 8000);
        }
        int goal = x.of(1, 1);
        x.refused(1).node(GIVEN, goal, 8001, -1, 0);
        x.refused(BAD).node(10, a, 1, 1, 1);
        x.refused(BAD).node(-1, a, 1, 1, 1);
        x.refused(BAD).node(GIVEN, 0, 1, 1, 1);
        x.refused(BAD).node(ABSURD, a, 8001, 0, 0);
        x.refused(BAD).node(PAIR, a, 8000, 8001, 0);
        x.refused(BAD).node(CASES, a, 8000, 8000, 8001);
        x.refused(BAD).node(CASES, a, 8000, 8000, 0);
        // Statements have a room of their own.
        int there = x.statements();
        x.due(there + 1).join(Run.AND, a, a);
    }

    // Promises 11 to 15, of the last node.

    private static void askedOfTheLastNode() {
        Run x = run("asked of the last node");
        int same = x.read("(a>a)");
        leaveNodes(x, 2);
        x.due(8000).prove(same, 3000);
        x.nodeIs(7999, GIVEN, 1);
        x.nodeIs(8000, LAMBDA, same, 7999);
        x.due(1).wellMade(8000);
        x.due(1).rests(7999);
        x.due(1).restsOn(7999, 0);
        x.due(0).proves(7999);
        x.due(0).rests(8000);
        x.due(NO).restsOn(8000, 0);
        x.due(1).proves(8000);
        x.refused(BAD).of(8001, 0);
        x.refused(BAD).wellMade(8001);
        x.refused(BAD).rests(8001);
        x.refused(BAD).restsOn(8001, 0);
        x.refused(BAD).proves(8001);
    }

    // "where there is no room for one the search ends: FULL"; "or for its goal: FULL"

    private static void roomForStatements(Example example, int room) {
        Run x = run(example.name() + " with room for " + room + " statements");
        int f = x.read(example.text());
        leaveStatements(x, room);
        boolean comes = room >= example.comes();
        boolean fits = room >= example.comes() + example.goals();
        x.due(fits ? example.answer() : FULL).prove(f, 3000);
        x.due(comes ? example.fuel() : example.by()).used();
        int made = Math.min(room, example.comes() + example.goals());
        x.due(MOST_STATEMENTS - room + made).statements();
        if (fits || !comes) {
            x.due(fits ? example.nodes() : 0).nodes();
        }
        // What was made stays, and is enough as little as before.
        x.due(fits ? example.answer() : FULL).prove(f, 3000);
        x.due(comes ? example.fuel() : example.by()).used();
    }

    // "the nodes are made ...; where there is no room for one ...: FULL"

    private static void roomForNodes(Example example, int room) {
        Run x = run(example.name() + " with room for " + room + " nodes");
        int f = x.read(example.text());
        leaveNodes(x, room);
        int there = MOST_NODES - room;
        boolean fits = room >= example.nodes();
        int answer = !fits ? FULL : example.isProvable() ? there + example.nodes() : NO;
        x.due(answer).prove(f, 3000);
        x.due(example.fuel()).used();
        x.due(there + Math.min(room, example.nodes())).nodes();
        x.due(answer).prove(f, 3000);
        x.due(OUT).prove(f, example.fuel() - 1);
    }

    // "kept once each": a proof that is there needs no room.

    private static void noRoomIsNeeded(Example example) {
        Run x = run(example.name() + " again without room");
        int f = x.read(example.text());
        x.due(example.answer()).prove(f, 3000);
        leaveNodes(x, 0);
        x.refused(BAD).prove(f, 3001);
        x.due(example.answer()).prove(f, 3000);
        x.due(example.fuel()).used();
        Run y = run(example.name() + " again without room for statements");
        int g = y.read(example.text());
        y.due(example.answer()).prove(g, 3000);
        leaveStatements(y, 0);
        y.due(example.answer()).prove(g, 3000);
        y.due(example.fuel()).used();
    }

    // "(g before h; in 9 D IMPLIES B before g)"; "They stay."

    private static void whichOfTwoIsMade() {
        Run x = run("rule 9 with room for one");
        int f = x.read("(((a&b)>c)>d)");
        leaveStatements(x, 1);
        x.due(FULL).prove(f, 3000);
        x.statementIs(600, Run.IMPLIES, 2, 4);
        Run y = run("rule 10 with room for one");
        int g = y.read("(((a|b)>c)>d)");
        leaveStatements(y, 1);
        y.due(FULL).prove(g, 3000);
        y.statementIs(600, Run.IMPLIES, 1, 4);
    }

    /** The last statement comes, and a rule takes it up; the search goes on as ever after it. */
    private static void lastStatementIsGiven() {
        Run x = run("rule 7 takes up the last statement");
        int f = x.read("(((a|b)>c)>(b>d))");
        x.read("(a>c)");
        leaveStatements(x, 1);
        // f; b>d; d given f and b; by rule 10 given a>c, b>c; by rule 7 given a>c, c.
        x.due(NO).prove(f, 3000);
        x.due(5).used();
        x.statementIs(600, Run.IMPLIES, 2, 4);
        Run y = run("rule 11 takes up the last statement");
        int g = y.read("((((a>b)&c)>d)>a)");
        int inner = y.read("(c>d)");
        y.read("(b>(c>d))");
        leaveStatements(y, 1);
        // g; a; by rule 9 a, given (a>b)>(c>d); by rule 11 a>b, and b, given b>(c>d).
        y.due(NO).prove(g, 3000);
        y.due(5).used();
        y.statementIs(600, Run.IMPLIES, 3, inner);
    }

    // "where there is no room for one the search ends"

    /** The right part, or the next nested one, would give a proof: it is not come to. */
    private static void fullEndsAll() {
        Run x = run("FULL ends all");
        int f = x.read("((((a|b)>c)>d)|(a>a))");
        int g = x.read("(((a>b)>c)>(((a>a)>c)>c))");
        int first = x.read("((a>b)>c)");
        int second = x.read("((a>a)>c)");
        x.read("(a>c)");
        CHECKS.that("the one that needs room is the lesser", first < second);
        leaveStatements(x, 0);
        x.due(FULL).prove(f, 3000);
        x.due(3).used();
        x.due(FULL).prove(g, 3000);
        x.due(3).used();
        x.due(0).nodes();
    }

    /** What comes is made when it is wanted, which is before the fuel for its sequent is asked for. */
    private static void fullBeforeFuelLacks() {
        for (Example example : Example.ALL) {
            if (example.comes() > 0) {
                Run x = run("FULL before OUT by " + example.name());
                int f = x.read(example.text());
                leaveStatements(x, example.comes() - 1);
                x.due(OUT).prove(f, example.by() - 1);
                x.due(example.by() - 1).used();
                x.due(FULL).prove(f, example.by());
                x.due(example.by()).used();
            }
        }
    }

    // "where there is no room ... for its goal: FULL (those that were made stay)"

    private static void goalsOfOneProof() {
        for (int room = 0; room <= 1; room++) {
            Run x = run("rule 5 with room for " + room + " goals");
            int f = x.read("((a&b)>a)");
            int same = x.read("(a>a)");
            leaveStatements(x, room);
            x.due(FULL).prove(f, 3000);
            x.due(3).used();
            x.due(1 + room).nodes();
            x.nodeIs(1, GIVEN, 1);
            if (room == 1) {
                x.statementIs(600, Run.IMPLIES, 2, 1);
                x.nodeIs(2, LAMBDA, 600, 1);
            }
            // What needs no more of them is proved still.
            x.due(2 + room).prove(same, 3000);
            x.due(1).proves(2 + room);
        }
        Run y = run("rule 7 without room for a goal");
        int g = y.read("(a>((a>b)>b))");
        leaveStatements(y, 0);
        y.due(FULL).prove(g, 3000);
        y.due(1).nodes();
        y.nodeIs(1, GIVEN, 2);
    }

    // "parts before the node itself, the first part first"; "(those that were made stay)"

    private static void nodesOfOneProof() {
        for (int room = 0; room <= 9; room++) {
            Run x = run("rule 5 with room for " + room + " nodes");
            int f = x.read("((a&b)>a)");
            int inner = x.read("(b>a)");
            int outer = x.read("(a>(b>a))");
            leaveNodes(x, room);
            int n = MOST_NODES - room;
            int[][] rows = {
                {0, 1}, {1, inner, n + 1}, {1, outer, n + 2}, {0, 3}, {4, 1, n + 4},
                {2, inner, n + 3, n + 5}, {5, 2, n + 4}, {2, 1, n + 6, n + 7}, {1, f, n + 8}
            };
            x.due(room < 9 ? FULL : MOST_NODES).prove(f, 3000);
            for (int k = 0; k < room; k++) {
                x.nodeIs(n + 1 + k, rows[k]);
            }
            x.due(BAD).of(MOST_NODES + 1, 0);
        }
    }

    /** A goal that is not there is made before its node, for which there may then be no room. */
    private static void goalBeforeItsNode() {
        for (int room = 0; room <= 3; room++) {
            Run x = run("new goals with room for " + room + " nodes");
            int f = x.read("((a&b)>a)");
            leaveNodes(x, room);
            int there = x.statements();
            x.due(FULL).prove(f, 3000);
            x.due(there + Math.min(room, 2)).statements();
        }
    }
}
