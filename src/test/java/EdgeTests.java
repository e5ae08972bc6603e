/**
 * The edges of each call, promise by promise: of each argument the last value that is allowed and
 * the first that is not, on both sides; what is asked of an object that has nothing yet; and that
 * a refused call makes nothing. The document's sentence stands above each test.
 */
public final class EdgeTests {
    private static final int BAD = ProofSeeker.BAD;
    private static final int NO = ProofSeeker.NO;
    private static final int OUT = ProofSeeker.OUT;
    private static final int LEAST = Integer.MIN_VALUE;
    private static final int MOST = Integer.MAX_VALUE;
    private static final int GIVEN = 0;
    private static final int LAMBDA = 1;
    private static final int CASES = 8;
    private static final int ABSURD = 9;
    /** By tag, how many parts a node has. */
    private static final int[] PARTS = {0, 1, 2, 2, 1, 1, 1, 1, 3, 1};

    private static final Checks CHECKS = new Checks();

    public static void main(String[] args) {
        newObjectHasNothing();
        objectsShareNothing();
        atomIndex();
        atomsAreKeptOnce();
        falsehoodIsKeptOnce();
        joinSort();
        joinParts();
        joinsAreKeptOnce();
        toldWhat();
        toldWhich();
        toldParts();
        statementsAreCounted();
        nodesAreCounted();
        proveWhich();
        proveFuel();
        usedBefore();
        usedByTheLatest();
        nodeTag();
        nodeGoal();
        nodeParts();
        nodePartsNotLookedAt();
        nodesAreKeptOnce();
        ofWhat();
        ofWhich();
        ofParts();
        askedOfNoNode();
        wellMadeAlsoItsParts();
        restsOnNone();
        nothingIsLeftOut();
        restsOnAbove();
        provesWhen();
        isTrueWhich();
        isTrueBits();
        lastCall();
        laterCalls();
        CHECKS.end();
    }

    private static Run run(String name) {
        return new Run(CHECKS, name);
    }

    /** A run with the atoms 0 to n - 1 as the statements 1 to n. */
    private static Run withAtoms(String name, int n) {
        Run x = run(name);
        for (int i = 0; i < n; i++) {
            x.due(i + 1).atom(i);
        }
        return x;
    }

    /** Numbers that are none of 1 .. count, those next to them first. */
    private static int[] outside(int count) {
        return new int[] {0, count + 1, -1, count + 2, -count, 600, 8000, LEAST, LEAST + 1, MOST};
    }

    // Promise 1: "No statements, no nodes."

    private static void newObjectHasNothing() {
        Run x = run("new");
        x.due(0).statements();
        x.due(0).nodes();
        x.due(0).used();
        for (int none = 0; none <= 1; none++) {
            x.refused(BAD).told(none, 0);
            x.refused(BAD).join(Run.AND, none, none);
            x.refused(BAD).prove(none, 3000);
            x.refused(BAD).isTrue(none, -1);
            x.refused(BAD).of(none, 0);
            x.refused(BAD).wellMade(none);
            x.refused(BAD).rests(none);
            x.refused(BAD).restsOn(none, 0);
            x.refused(BAD).proves(none);
            for (int tag = GIVEN; tag <= ABSURD; tag++) {
                x.refused(BAD).node(tag, none, none, none, none);
            }
        }
        x.due(1).falsehood();
        for (int tag = LAMBDA; tag <= ABSURD; tag++) {
            x.refused(BAD).node(tag, 1, 1, 1, 1);
        }
        x.due(1).node(GIVEN, 1, 0, 0, 0);
    }

    private static void objectsShareNothing() {
        Run one = run("one of two");
        one.due(1).atom(7);
        one.due(2).join(Run.IMPLIES, 1, 1);
        one.due(2).prove(2, 3000);
        Run other = run("the other of two");
        other.due(0).statements();
        other.due(0).nodes();
        other.due(0).used();
        other.due(1).atom(9);
        one.statementIs(1, 0, 7, 0);
        other.due(OUT).prove(1, 0);
        one.due(2).used();
    }

    // Promise 2: "ATOM i (0 .. 31)"; "made if it is not there: its number. BAD".

    private static void atomIndex() {
        Run x = run("atom");
        x.due(1).atom(31);
        x.due(2).atom(0);
        int[] wrong = {-1, 32, -2, 33, 63, 64, -31, -32, 256, 65536, LEAST, LEAST + 31, MOST};
        for (int i : wrong) {
            x.refused(BAD).atom(i);
        }
        x.statementIs(1, 0, 31, 0);
        x.statementIs(2, 0, 0, 0);
        x.due(3).atom(1);
    }

    private static void atomsAreKeptOnce() {
        Run x = withAtoms("all atoms", 32);
        for (int i = 31; i >= 0; i--) {
            x.refused(i + 1).atom(i);
        }
        x.due(33).falsehood();
    }

    // Promise 3: "FALSE".

    private static void falsehoodIsKeptOnce() {
        Run x = run("falsehood");
        x.due(1).falsehood();
        x.refused(1).falsehood();
        x.due(2).atom(0);
        x.due(3).atom(1);
        x.refused(1).falsehood();
        x.due(3).statements();
    }

    // Promise 4: "A AND B (sort 2), A OR B (3), A IMPLIES B (4): likewise."

    private static void joinSort() {
        Run x = withAtoms("sort of join", 2);
        x.due(3).join(2, 1, 2);
        x.due(4).join(4, 1, 2);
        for (int sort : new int[] {1, 5, 0, -1, 6, -2, -4, 18, 20, LEAST, LEAST + 2, MOST}) {
            x.refused(BAD).join(sort, 1, 2);
        }
        x.due(5).join(3, 1, 2);
    }

    private static void joinParts() {
        Run x = withAtoms("parts of join", 3);
        for (int wrong : outside(3)) {
            x.refused(BAD).join(Run.AND, wrong, 1);
            x.refused(BAD).join(Run.OR, 1, wrong);
            x.refused(BAD).join(Run.IMPLIES, wrong, wrong);
        }
        x.due(4).join(Run.AND, 1, 3);
        // The latest one may be a part at once, and one that is its own part may not.
        x.due(5).join(Run.OR, 4, 1);
        x.refused(BAD).join(Run.OR, 6, 1);
        x.refused(BAD).join(Run.OR, 1, 6);
        x.due(6).join(Run.IMPLIES, 5, 5);
    }

    private static void joinsAreKeptOnce() {
        Run x = withAtoms("joins", 2);
        int made = 2;
        for (int sort = 2; sort <= 4; sort++) {
            x.due(++made).join(sort, 1, 2);
            x.due(++made).join(sort, 2, 1);
            x.due(++made).join(sort, 1, 1);
            x.refused(made - 2).join(sort, 1, 2);
            x.refused(made - 1).join(sort, 2, 1);
            x.refused(made).join(sort, 1, 1);
        }
        x.due(11).statements();
    }

    // Promise 5: "BAD when there is none, or another what."

    private static Run oneOfEachSort(String name) {
        Run x = run(name);
        x.due(1).atom(31);
        x.due(2).falsehood();
        x.due(3).join(Run.AND, 2, 1);
        x.due(4).join(Run.OR, 1, 3);
        x.due(5).join(Run.IMPLIES, 4, 2);
        return x;
    }

    private static void toldWhat() {
        Run x = oneOfEachSort("what of told");
        for (int f = 1; f <= 5; f++) {
            for (int wrong : new int[] {-1, 3, -2, 4, 5, 256, LEAST, MOST}) {
                x.refused(BAD).told(f, wrong);
            }
        }
    }

    private static void toldWhich() {
        Run x = oneOfEachSort("statement of told");
        for (int wrong : outside(5)) {
            for (int what = 0; what <= 2; what++) {
                x.refused(BAD).told(wrong, what);
            }
        }
        x.refused(BAD).told(6, 3);
        x.due(0).told(1, 0);
        x.due(4).told(5, 0);
    }

    // "its sort (0 ATOM, 1 FALSE, 2, 3, 4), 1, 2 its parts (of an ATOM i and 0, of FALSE 0)"

    private static void toldParts() {
        Run x = oneOfEachSort("parts of told");
        x.statementIs(1, 0, 31, 0);
        x.statementIs(2, 1, 0, 0);
        x.statementIs(3, 2, 2, 1);
        x.statementIs(4, 3, 1, 3);
        x.statementIs(5, 4, 4, 2);
        x.due(6).atom(0);
        x.statementIs(6, 0, 0, 0);
    }

    // Promise 6: "How many statements there are."

    private static void statementsAreCounted() {
        Run x = run("statements");
        x.due(0).statements();
        x.atom(0);
        x.due(1).statements();
        x.falsehood();
        x.due(2).statements();
        int f = x.read("(((a|b)>c)>d)");
        x.due(8).statements();
        x.prove(f, 3000);
        x.due(10).statements();
        x.node(GIVEN, 10, 0, 0, 0);
        x.due(10).statements();
    }

    // Promise 7: "How many nodes there are."

    private static void nodesAreCounted() {
        Run x = run("nodes");
        int f = x.read("((a&b)>a)");
        x.due(0).nodes();
        x.node(GIVEN, f, 0, 0, 0);
        x.due(1).nodes();
        x.due(10).prove(f, 3000);
        x.due(10).nodes();
        x.prove(f, 3000);
        x.due(10).nodes();
        x.prove(1, 3000);
        x.due(10).nodes();
    }

    // Promise 8: "BAD when there is no such statement, or fuel is not as told."

    private static void proveWhich() {
        Run x = run("statement of prove");
        x.due(1).atom(0);
        x.due(2).join(Run.IMPLIES, 1, 1);
        for (int wrong : outside(2)) {
            x.refused(BAD).prove(wrong, 3000);
            x.refused(BAD).prove(wrong, 0);
        }
        x.due(NO).prove(1, 3000);
        x.due(2).prove(2, 3000);
        x.refused(BAD).prove(3, 3000);
    }

    // "and so much fuel (0 .. 3000)"

    private static void proveFuel() {
        Run x = run("fuel of prove");
        // Of the one a search makes statements, of the other nodes: neither is to be searched.
        int makesStatements = x.read("(((a|b)>c)>d)");
        int makesNodes = x.read("(a>a)");
        for (int wrong : new int[] {-1, 3001, -2, 3002, -3000, 65536, LEAST, LEAST + 3000, MOST}) {
            x.refused(BAD).prove(makesStatements, wrong);
            x.refused(BAD).prove(makesNodes, wrong);
        }
        x.refused(OUT).prove(makesStatements, 0);
        x.refused(OUT).prove(makesNodes, 0);
        x.due(2).prove(makesNodes, 3000);
        x.due(2).used();
        x.due(NO).prove(makesStatements, 3000);
        x.due(3).used();
    }

    // Promise 9: "0 before."

    private static void usedBefore() {
        Run x = run("used before a search");
        x.due(0).used();
        int f = x.read("(a>a)");
        x.node(GIVEN, f, 0, 0, 0);
        x.isTrue(f, 0);
        x.due(0).used();
        x.due(BAD).prove(f, 3001);
        x.due(0).used();
    }

    // "How much fuel the latest search used"

    private static void usedByTheLatest() {
        Run x = run("used by the latest");
        int same = x.read("(a>a)");
        int none = x.read("(a|b)");
        x.due(2).prove(same, 3000);
        x.due(2).used();
        x.due(NO).prove(none, 3000);
        x.due(3).used();
        x.due(OUT).prove(none, 1);
        x.due(1).used();
        x.due(OUT).prove(none, 0);
        x.due(0).used();
        x.due(2).prove(same, 2);
        x.due(2).used();
        // What is refused is no search.
        x.due(BAD).prove(same, -1);
        x.due(BAD).prove(0, 9);
        x.read("(b>c)");
        x.due(2).used();
    }

    // Promise 10: "BAD when the tag is not 0 .. 9"

    private static void nodeTag() {
        Run x = withAtoms("tag of node", 1);
        x.due(1).node(GIVEN, 1, 0, 0, 0);
        for (int wrong : new int[] {-1, 10, -2, 11, -9, 16, 17, 256, LEAST, LEAST + 1, MOST}) {
            x.refused(BAD).node(wrong, 1, 1, 1, 1);
        }
        for (int tag = LAMBDA; tag <= ABSURD; tag++) {
            x.due(tag + 1).node(tag, 1, 1, 1, 1);
        }
    }

    // "goal is no statement"

    private static void nodeGoal() {
        Run x = withAtoms("goal of node", 2);
        x.due(1).node(GIVEN, 1, 0, 0, 0);
        x.due(2).node(GIVEN, 2, 0, 0, 0);
        for (int wrong : outside(2)) {
            x.refused(BAD).node(GIVEN, wrong, 1, 1, 1);
            x.refused(BAD).node(ABSURD, wrong, 1, 1, 1);
        }
        x.refused(BAD).node(CASES, 3, 1, 1, 1);
        x.due(3).atom(2);
        x.due(3).node(CASES, 3, 1, 1, 1);
    }

    // "or one of its parts is no node"

    private static void nodeParts() {
        for (int tag = GIVEN; tag <= ABSURD; tag++) {
            for (int at = 0; at < PARTS[tag]; at++) {
                Run x = withAtoms("part " + at + " of tag " + tag, 2);
                x.due(1).node(GIVEN, 1, 0, 0, 0);
                x.due(2).node(GIVEN, 2, 0, 0, 0);
                for (int wrong : outside(2)) {
                    x.refused(BAD);
                    nodeWithPart(x, tag, at, wrong);
                }
                // The latest node may be a part, one that is its own part may not.
                x.due(3);
                nodeWithPart(x, tag, at, 2);
                x.refused(BAD);
                nodeWithPart(x, tag, at, 4);
                x.due(4);
                nodeWithPart(x, tag, at, 3);
                x.due(3).of(4, 2 + at);
            }
        }
    }

    private static int nodeWithPart(Run x, int tag, int at, int part) {
        return x.node(tag, 1, at == 0 ? part : 1, at == 1 ? part : 1, at == 2 ? part : 1);
    }

    // "(those that it has not are not looked at)"

    private static void nodePartsNotLookedAt() {
        for (int tag = GIVEN; tag <= ABSURD; tag++) {
            Run x = withAtoms("parts that tag " + tag + " has not", 1);
            x.due(1).node(GIVEN, 1, 0, 0, 0);
            int made = tag == GIVEN ? 1 : 2;
            for (int any : new int[] {0, 1, 2, 3, -1, LEAST, MOST}) {
                int[] part = new int[3];
                for (int at = 0; at < 3; at++) {
                    part[at] = at < PARTS[tag] ? 1 : any;
                }
                x.due(made).node(tag, 1, part[0], part[1], part[2]);
                x.due(made).nodes();
            }
            for (int at = 0; at < 3; at++) {
                x.due(at < PARTS[tag] ? 1 : 0).of(made, 2 + at);
            }
        }
    }

    // "A node, made if it is not there: its number."

    private static void nodesAreKeptOnce() {
        Run x = withAtoms("nodes that are there", 2);
        x.due(1).node(GIVEN, 1, 0, 0, 0);
        x.due(2).node(GIVEN, 2, 0, 0, 0);
        int[][] rows = {
            {2, 1, 1, 2, 0}, {2, 1, 2, 1, 0}, {2, 2, 1, 2, 0}, {3, 1, 1, 2, 0}, {8, 1, 1, 2, 1},
            {8, 1, 1, 1, 2}, {8, 1, 2, 1, 1}, {4, 1, 1, 0, 0}, {5, 1, 1, 0, 0}, {4, 1, 2, 0, 0}
        };
        for (int k = 0; k < rows.length; k++) {
            x.due(3 + k).node(rows[k][0], rows[k][1], rows[k][2], rows[k][3], rows[k][4]);
        }
        for (int k = 0; k < rows.length; k++) {
            x.refused(3 + k).node(rows[k][0], rows[k][1], rows[k][2], rows[k][3], rows[k][4]);
            x.nodeIs(3 + k, rows[k]);
        }
    }

    // Promise 11: "BAD when there is no such node, or another what."

    private static Run oneOfEachTag(String name) {
        Run x = withAtoms(name, 1);
        x.due(1).node(GIVEN, 1, 0, 0, 0);
        for (int tag = LAMBDA; tag <= ABSURD; tag++) {
            x.due(tag + 1).node(tag, 1, tag, 1, tag);
        }
        return x;
    }

    private static void ofWhat() {
        Run x = oneOfEachTag("what of of");
        for (int n = 1; n <= 10; n += 3) {
            for (int wrong : new int[] {-1, 5, -2, 6, -5, 256, LEAST, MOST}) {
                x.refused(BAD).of(n, wrong);
            }
        }
    }

    private static void ofWhich() {
        Run x = oneOfEachTag("node of of");
        for (int wrong : outside(10)) {
            for (int what = 0; what <= 4; what++) {
                x.refused(BAD).of(wrong, what);
            }
        }
        x.due(GIVEN).of(1, 0);
        x.due(ABSURD).of(10, 0);
    }

    // "what = 0 its tag, 1 its goal, 2 3 4 its parts (0 where there is none)"

    private static void ofParts() {
        Run x = oneOfEachTag("parts of of");
        for (int tag = GIVEN; tag <= ABSURD; tag++) {
            int n = tag + 1;
            x.due(tag).of(n, 0);
            x.due(1).of(n, 1);
            x.due(PARTS[tag] >= 1 ? tag : 0).of(n, 2);
            x.due(PARTS[tag] >= 2 ? 1 : 0).of(n, 3);
            x.due(PARTS[tag] >= 3 ? tag : 0).of(n, 4);
        }
    }

    // Promises 12 to 15: "BAD."

    private static void askedOfNoNode() {
        Run x = withAtoms("asked of no node", 3);
        for (int f = 1; f <= 3; f++) {
            x.due(f).node(GIVEN, f, 0, 0, 0);
        }
        for (int wrong : outside(3)) {
            x.refused(BAD).wellMade(wrong);
            x.refused(BAD).rests(wrong);
            x.refused(BAD).restsOn(wrong, 0);
            x.refused(BAD).restsOn(wrong, 3);
            x.refused(BAD).proves(wrong);
        }
        for (int n = 1; n <= 3; n += 2) {
            x.due(1).wellMade(n);
            x.due(1).rests(n);
            x.due(n).restsOn(n, 0);
            x.due(0).proves(n);
        }
    }

    // Promise 12: "A node is WELL MADE when its parts are, and"

    private static void wellMadeAlsoItsParts() {
        Run x = withAtoms("parts that are not well made", 2);
        int and = x.read("(a&b)");
        int or = x.read("(a|b)");
        int implies = x.read("(a>b)");
        int none = x.falsehood();
        int[] goals = {1, 2, and, or, implies, none};
        int[] good = new int[7];
        int[] ill = new int[7];
        for (int f : goals) {
            good[f] = x.node(GIVEN, f, 0, 0, 0);
            // No node is well made as a LAMBDA of itself: its goal is not what it would have to be.
            ill[f] = x.node(LAMBDA, f, good[f], 0, 0);
            x.due(1).wellMade(good[f]);
            x.due(0).wellMade(ill[f]);
        }
        int[][] fits = {
            {1, implies, 2}, {2, 2, implies, 1}, {3, and, 1, 2}, {4, 1, and}, {5, 2, and},
            {6, or, 1}, {7, or, 2}, {8, 1, or, 1, 1}, {9, 1, none}
        };
        for (int[] row : fits) {
            for (int bad = 0; bad <= PARTS[row[0]]; bad++) {
                int[] part = new int[3];
                for (int at = 0; at < PARTS[row[0]]; at++) {
                    part[at] = (at + 1 == bad ? ill : good)[row[2 + at]];
                }
                int n = x.node(row[0], row[1], part[0], part[1], part[2]);
                x.due(bad == 0 ? 1 : 0).wellMade(n);
            }
        }
    }

    // Promise 13: "How many statements a node RESTS ON."; "1 on what its part rests on, but A"

    private static void restsOnNone() {
        Run x = withAtoms("rests on none", 2);
        int same = x.read("(a>a)");
        int pair = x.read("(a&a)");
        x.due(1).node(GIVEN, 1, 0, 0, 0);
        x.due(1).rests(1);
        x.due(2).node(3, pair, 1, 1, 0);
        x.due(1).rests(2);
        x.due(3).node(LAMBDA, same, 1, 0, 0);
        x.due(0).rests(3);
        x.due(NO).restsOn(3, 0);
        x.due(NO).restsOn(3, LEAST);
        x.due(NO).restsOn(3, MOST);
        x.due(1).proves(3);
    }

    // "(Where there are no such A and B nothing is left out.)"

    private static void nothingIsLeftOut() {
        Run x = withAtoms("nothing is left out", 2);
        int and = x.read("(a&b)");
        int or = x.read("(a|b)");
        int implies = x.read("(a>b)");
        int none = x.falsehood();
        int pair = x.node(3, and, x.node(GIVEN, 1, 0, 0, 0), x.node(GIVEN, 2, 0, 0, 0), 0);
        for (int goal : new int[] {1, none, and, or}) {
            int n = x.node(LAMBDA, goal, pair, 0, 0);
            x.due(2).rests(n);
            x.due(1).restsOn(n, 0);
            x.due(2).restsOn(n, 1);
        }
        int left = x.node(LAMBDA, implies, pair, 0, 0);
        x.due(1).rests(left);
        x.due(2).restsOn(left, 0);
        for (int goal : new int[] {none, and, implies}) {
            int first = x.node(GIVEN, goal, 0, 0, 0);
            for (int second = 1; second <= 2; second++) {
                int n = x.node(CASES, 1, first, second, 3 - second);
                x.due(3).rests(n);
                x.due(1).restsOn(n, 0);
                x.due(2).restsOn(n, 1);
                x.due(goal).restsOn(n, 2);
            }
        }
        int either = x.node(GIVEN, or, 0, 0, 0);
        int both = x.node(CASES, 1, either, 1, 2);
        x.due(1).rests(both);
        x.due(or).restsOn(both, 0);
        int neither = x.node(CASES, 1, either, 2, 1);
        x.due(3).rests(neither);
    }

    // Promise 14: "The least statement above f that a node RESTS ON. BAD; NO when there is none."

    private static void restsOnAbove() {
        Run x = withAtoms("restsOn above", 5);
        int pair = x.read("(b&d)");
        x.due(1).node(GIVEN, 2, 0, 0, 0);
        x.due(2).node(GIVEN, 4, 0, 0, 0);
        x.due(3).node(3, pair, 1, 2, 0);
        int[][] dues = {
            {LEAST, 2}, {LEAST + 1, 2}, {-65, 2}, {-64, 2}, {-63, 2}, {-1, 2}, {0, 2}, {1, 2},
            {2, 4}, {3, 4}, {4, NO}, {5, NO}, {6, NO}, {7, NO}, {63, NO}, {64, NO}, {65, NO},
            {66, NO}, {599, NO}, {600, NO}, {601, NO}, {639, NO}, {640, NO}, {MOST - 1, NO},
            {MOST, NO}
        };
        for (int[] due : dues) {
            x.due(due[1]).restsOn(3, due[0]);
        }
        x.due(BAD).restsOn(4, 6);
    }

    // Promise 15: "A node PROVES its goal when it is well made and rests on nothing."

    private static void provesWhen() {
        Run x = withAtoms("proves", 2);
        int same = x.read("(a>a)");
        int other = x.read("(a>b)");
        x.node(GIVEN, 1, 0, 0, 0);
        int both = x.node(LAMBDA, same, 1, 0, 0);
        int illMade = x.node(LAMBDA, other, 1, 0, 0);
        int restsStill = x.node(LAMBDA, other, x.node(GIVEN, 2, 0, 0, 0), 0, 0);
        x.due(1).wellMade(both);
        x.due(0).rests(both);
        x.due(1).proves(both);
        x.due(0).wellMade(illMade);
        x.due(0).rests(illMade);
        x.due(0).proves(illMade);
        x.due(1).wellMade(restsStill);
        x.due(1).rests(restsStill);
        x.due(0).proves(restsStill);
        int neither = x.node(LAMBDA, 1, 1, 0, 0);
        x.due(0).wellMade(neither);
        x.due(1).rests(neither);
        x.due(0).proves(neither);
    }

    // Promise 16: "1 or 0; BAD."

    private static void isTrueWhich() {
        Run x = withAtoms("statement of isTrue", 2);
        for (int wrong : outside(2)) {
            x.refused(BAD).isTrue(wrong, 0);
            x.refused(BAD).isTrue(wrong, -1);
        }
        x.due(1).isTrue(1, 1);
        x.due(1).isTrue(2, 2);
    }

    // "true when the atoms whose bits are set are, and FALSE is not, by tables"

    private static void isTrueBits() {
        Run x = withAtoms("bits of isTrue", 32);
        for (int i = 0; i < 32; i++) {
            x.due(1).isTrue(i + 1, 1 << i);
            x.due(0).isTrue(i + 1, ~(1 << i));
        }
        x.due(1).isTrue(32, LEAST);
        x.due(0).isTrue(1, LEAST);
        x.due(0).isTrue(32, MOST);
        x.due(1).isTrue(1, MOST);
        int none = x.falsehood();
        int[] parts = {none, 1, 32};
        for (int atoms : new int[] {0, 1, LEAST, LEAST + 1, -1}) {
            int[] truth = {0, atoms & 1, atoms >>> 31};
            x.due(0).isTrue(none, atoms);
            for (int a = 0; a < 3; a++) {
                for (int b = 0; b < 3; b++) {
                    isTrueOfJoins(x, atoms, parts[a], parts[b], truth[a], truth[b]);
                }
            }
        }
    }

    private static void isTrueOfJoins(Run x, int atoms, int a, int b, int left, int right) {
        int and = x.join(Run.AND, a, b);
        x.due(left & right).isTrue(and, atoms);
        int or = x.join(Run.OR, a, b);
        x.due(left | right).isTrue(or, atoms);
        int implies = x.join(Run.IMPLIES, a, b);
        x.due(1 - left | right).isTrue(implies, atoms);
    }

    // "An object is used for at most 512 calls after it has been made"

    private static void lastCall() {
        Run x = run("512 calls");
        int f = x.read("(a>(b&(a>a)))");
        int g = x.read("(b>(b&(a>a)))");
        while (x.calls() < Run.MOST_CALLS - 4) {
            x.due(NO).prove(f, 3000);
        }
        x.due(5).prove(g, 3000);
        x.due(1).proves(5);
        x.due(5).nodes();
        x.due(5).used();
        CHECKS.due("calls that were made", x.calls(), Run.MOST_CALLS);
    }

    // "what later calls answer is free", but by LANGUAGE.md's rule 7 they end, and throw nothing.

    private static void laterCalls() {
        ProofSeeker x = new ProofSeeker();
        int last = x.atom(0);
        for (int k = 0; k < 700; k++) {
            last = x.join(2 + k % 3, Math.max(last, 1), 1 + k / 2);
            x.prove(1 + k, 3000);
        }
        for (int k = 0; k < 9000; k++) {
            x.node(k % 10, 1 + k % 600, k, k - 1, k - 2);
            x.proves(k);
        }
        CHECKS.that("later calls end", x.statements() >= 0 && x.nodes() >= 0);
    }
}
