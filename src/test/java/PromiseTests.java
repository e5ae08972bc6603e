/**
 * The promises of the document one by one, with answers worked out by hand from its words: what
 * calls answer by the way, each rule of the search, and wrong inputs. Edges have tests of their own.
 */
public final class PromiseTests {
    private static final int BAD = ProofSeeker.BAD;
    private static final int NO = ProofSeeker.NO;
    private static final int AND = 2;
    private static final int OR = 3;
    private static final int IMPLIES = 4;
    private static final int LEAST = Integer.MIN_VALUE;
    private static final int MOST = Integer.MAX_VALUE;

    private static final Checks CHECKS = new Checks();

    public static void main(String[] args) {
        newObject();
        atoms();
        falsehood();
        joins();
        told();
        counts();
        wrongProofs();
        ruleOne();
        ruleTwo();
        ruleThree();
        ruleFive();
        ruleSix();
        ruleSeven();
        ruleEight();
        ruleNine();
        ruleTen();
        ruleElevenOr();
        ruleElevenOrThenNested();
        ruleElevenNested();
        ruleElevenGoesOn();
        leastFirst();
        rulesInOrder();
        nodes();
        nodeParts();
        wellMade();
        rests();
        restsOfIllMade();
        restsOn();
        proves();
        truth();
        CHECKS.end();
    }

    private static void due(String what, long got, long want) {
        CHECKS.due(what, got, want);
    }

    /** A new object with the atoms 0 to n - 1 as the statements 1 to n. */
    private static ProofSeeker withAtoms(int n) {
        ProofSeeker x = new ProofSeeker();
        for (int i = 0; i < n; i++) {
            due("atom " + i, x.atom(i), i + 1);
        }
        return x;
    }

    private static void nodeIs(String run, ProofSeeker x, int n, int... want) {
        for (int what = 0; what <= 4; what++) {
            int due = what < want.length ? want[what] : 0;
            due(run + ": of(" + n + ", " + what + ")", x.of(n, what), due);
        }
    }

    /** All nodes of a proof, in their order, and that the last one is the proof. */
    private static void proofIs(String run, ProofSeeker x, int f, int used, int[]... want) {
        due(run + ": prove", x.prove(f, 3000), want.length);
        due(run + ": used", x.used(), used);
        due(run + ": nodes", x.nodes(), want.length);
        for (int n = 1; n <= want.length; n++) {
            nodeIs(run, x, n, want[n - 1]);
            due(run + ": wellMade(" + n + ")", x.wellMade(n), 1);
        }
        due(run + ": goal", x.of(want.length, 1), f);
        due(run + ": proves", x.proves(want.length), 1);
        int statements = x.statements();
        due(run + ": prove again", x.prove(f, 3000), want.length);
        due(run + ": nodes after it", x.nodes(), want.length);
        due(run + ": statements after it", x.statements(), statements);
    }

    private static int[] row(int... numbers) {
        return numbers;
    }

    // Promise 1.
    private static void newObject() {
        ProofSeeker x = new ProofSeeker();
        due("new: statements", x.statements(), 0);
        due("new: nodes", x.nodes(), 0);
        due("new: used", x.used(), 0);
        due("new: told", x.told(1, 0), BAD);
        due("new: of", x.of(1, 0), BAD);
        due("new: prove", x.prove(1, 10), BAD);
        due("new: isTrue", x.isTrue(1, 0), BAD);
        due("new: join", x.join(AND, 1, 1), BAD);
        due("new: node", x.node(0, 1, 0, 0, 0), BAD);
        x.atom(3);
        due("another new one: statements", new ProofSeeker().statements(), 0);
    }

    // Promise 2.
    private static void atoms() {
        ProofSeeker x = new ProofSeeker();
        due("atom(31)", x.atom(31), 1);
        due("atom(0)", x.atom(0), 2);
        due("atom(31) again", x.atom(31), 1);
        for (int wrong : row(-1, 32, 33, LEAST, MOST)) {
            due("atom(" + wrong + ")", x.atom(wrong), BAD);
        }
        due("statements after wrong atoms", x.statements(), 2);
    }

    // Promise 3.
    private static void falsehood() {
        ProofSeeker x = withAtoms(1);
        due("falsehood()", x.falsehood(), 2);
        due("falsehood() again", x.falsehood(), 2);
        due("statements", x.statements(), 2);
    }

    // Promise 4.
    private static void joins() {
        ProofSeeker x = withAtoms(2);
        due("1 AND 2", x.join(AND, 1, 2), 3);
        due("1 OR 2", x.join(OR, 1, 2), 4);
        due("1 IMPLIES 2", x.join(IMPLIES, 1, 2), 5);
        due("2 IMPLIES 1", x.join(IMPLIES, 2, 1), 6);
        due("1 AND 2 again", x.join(AND, 1, 2), 3);
        due("6 OR 6", x.join(OR, 6, 6), 7);
        for (int wrong : row(0, 1, 5, -1, LEAST, MOST)) {
            due("join of sort " + wrong, x.join(wrong, 1, 2), BAD);
        }
        for (int wrong : row(0, -1, 8, 600, LEAST, MOST)) {
            due("join of " + wrong + " and 1", x.join(AND, wrong, 1), BAD);
            due("join of 1 and " + wrong, x.join(IMPLIES, 1, wrong), BAD);
        }
        due("statements after wrong joins", x.statements(), 7);
    }

    // Promise 5.
    private static void told() {
        ProofSeeker x = new ProofSeeker();
        x.atom(17);
        x.falsehood();
        x.join(AND, 2, 1);
        x.join(OR, 1, 3);
        x.join(IMPLIES, 4, 2);
        int[][] want = {{0, 17, 0}, {1, 0, 0}, {AND, 2, 1}, {OR, 1, 3}, {IMPLIES, 4, 2}};
        for (int f = 1; f <= 5; f++) {
            for (int what = 0; what <= 2; what++) {
                due("told(" + f + ", " + what + ")", x.told(f, what), want[f - 1][what]);
            }
            for (int wrong : row(-1, 3, 4, LEAST, MOST)) {
                due("told(" + f + ", " + wrong + ")", x.told(f, wrong), BAD);
            }
        }
        for (int wrong : row(0, -1, 6, LEAST, MOST)) {
            due("told(" + wrong + ", 0)", x.told(wrong, 0), BAD);
        }
    }

    // Promises 6 and 7.
    private static void counts() {
        ProofSeeker x = withAtoms(2);
        due("statements", x.statements(), 2);
        x.join(OR, 1, 2);
        due("statements after one more", x.statements(), 3);
        due("nodes", x.nodes(), 0);
        x.node(0, 3, 0, 0, 0);
        due("nodes after one", x.nodes(), 1);
        x.node(0, 3, 0, 0, 0);
        due("nodes after the same again", x.nodes(), 1);
        x.node(0, 4, 0, 0, 0);
        due("nodes after a wrong one", x.nodes(), 1);
        due("statements after nodes", x.statements(), 3);
    }

    // Promises 8 and 9.

    private static void wrongProofs() {
        ProofSeeker x = withAtoms(1);
        x.join(IMPLIES, 1, 1);
        due("prove", x.prove(2, 3000), 2);
        due("used", x.used(), 2);
        for (int wrong : row(0, -1, 3, LEAST, MOST)) {
            due("prove(" + wrong + ", 9)", x.prove(wrong, 9), BAD);
        }
        for (int wrong : row(-1, 3001, LEAST, MOST)) {
            due("prove(2, " + wrong + ")", x.prove(2, wrong), BAD);
        }
        due("used is still that of the latest search", x.used(), 2);
        due("prove of an atom", x.prove(1, 3000), NO);
        due("used for an atom", x.used(), 1);
    }

    private static void ruleOne() {
        ProofSeeker x = withAtoms(2);
        int and = x.join(AND, 1, 2);
        int same = x.join(IMPLIES, and, and);
        // The goal is given: neither the AND of the goal nor the given one is taken apart.
        proofIs("rule 1", x, same, 2, row(0, and), row(1, same, 1));
    }

    private static void ruleTwo() {
        ProofSeeker x = new ProofSeeker();
        x.falsehood();
        x.atom(0);
        x.join(AND, 2, 2);
        x.join(IMPLIES, 1, 3);
        proofIs("rule 2", x, 4, 2, row(0, 1), row(9, 3, 1), row(1, 4, 2));
    }

    private static void ruleThree() {
        ProofSeeker x = withAtoms(1);
        x.join(AND, 1, 1);
        x.join(IMPLIES, 1, 2);
        proofIs("rule 3", x, 3, 4, row(0, 1), row(3, 2, 1, 1), row(1, 3, 2));
        due("rule 3: the AND alone", x.prove(2, 3000), NO);
        due("rule 3: the second one is not looked at", x.used(), 2);
        ProofSeeker y = withAtoms(2);
        y.join(AND, 2, 1);
        y.join(IMPLIES, 2, 3);
        y.join(IMPLIES, 1, 4);
        proofIs("rule 3, the first part first", y, 5, 5,
                row(0, 2), row(0, 1), row(3, 3, 1, 2), row(1, 4, 3), row(1, 5, 4));
    }

    private static void ruleFive() {
        ProofSeeker x = withAtoms(2);
        x.join(AND, 1, 2);
        x.join(IMPLIES, 3, 1);
        proofIs("rule 5", x, 4, 3, row(0, 1), row(1, 5, 1), row(1, 6, 2), row(0, 3), row(4, 1, 4),
                row(2, 5, 3, 5), row(5, 2, 4), row(2, 1, 6, 7), row(1, 4, 8));
        due("rule 5: statements", x.statements(), 6);
        due("rule 5: new goal", x.told(5, 1) * 100 + x.told(5, 2), 201);
        due("rule 5: new goal over it", x.told(6, 1) * 100 + x.told(6, 2), 105);
    }

    private static void ruleSix() {
        ProofSeeker x = withAtoms(2);
        x.join(OR, 1, 2);
        x.join(OR, 2, 1);
        x.join(IMPLIES, 3, 4);
        proofIs("rule 6", x, 5, 7, row(0, 3), row(0, 1), row(7, 4, 2), row(0, 2), row(6, 4, 4),
                row(8, 4, 1, 3, 5), row(1, 5, 6));
        ProofSeeker y = withAtoms(3);
        y.join(OR, 1, 2);
        due("rule 6: no proof from the first", y.prove(y.join(IMPLIES, 4, 3), 3000), NO);
        due("rule 6: the second one is not looked at", y.used(), 3);
    }

    private static void ruleSeven() {
        ProofSeeker x = withAtoms(2);
        x.join(IMPLIES, 1, 2);
        x.join(IMPLIES, 3, 2);
        x.join(IMPLIES, 1, 4);
        proofIs("rule 7", x, 5, 4, row(0, 2), row(1, 6, 1), row(0, 3), row(0, 1), row(2, 2, 3, 4),
                row(2, 2, 2, 5), row(1, 4, 6), row(1, 5, 7));
    }

    private static void ruleEight() {
        ProofSeeker x = new ProofSeeker();
        x.falsehood();
        x.atom(0);
        x.atom(1);
        x.join(IMPLIES, 1, 2);
        x.join(OR, 3, 2);
        x.join(IMPLIES, 3, 5);
        x.join(IMPLIES, 4, 6);
        proofIs("rule 8", x, 7, 5, row(0, 3), row(6, 5, 1), row(1, 6, 2), row(1, 7, 3));
    }

    private static void ruleNine() {
        ProofSeeker x = withAtoms(3);
        x.join(AND, 1, 2);
        x.join(IMPLIES, 4, 3);
        x.join(IMPLIES, 2, 3);
        x.join(IMPLIES, 1, 6);
        x.join(IMPLIES, 5, 7);
        proofIs("rule 9", x, 8, 7,
                row(0, 3), row(1, 9, 1), row(0, 6), row(0, 2), row(2, 3, 3, 4), row(2, 3, 2, 5),
                row(1, 10, 6), row(0, 7), row(0, 1), row(2, 6, 8, 9), row(2, 3, 7, 10),
                row(1, 11, 11), row(0, 5), row(3, 4, 9, 4), row(2, 3, 13, 14), row(1, 6, 15),
                row(1, 7, 16), row(2, 3, 12, 17), row(1, 6, 18), row(1, 7, 19), row(1, 8, 20));
        due("rule 9: statements", x.statements(), 11);
    }

    private static void ruleTen() {
        ProofSeeker x = withAtoms(3);
        x.join(OR, 1, 2);
        x.join(IMPLIES, 4, 3);
        x.join(IMPLIES, 1, 3);
        x.join(IMPLIES, 5, 6);
        proofIs("rule 10", x, 7, 5,
                row(0, 3), row(1, 9, 1), row(0, 6), row(0, 1), row(2, 3, 3, 4), row(2, 3, 2, 5),
                row(1, 10, 6), row(1, 11, 7), row(0, 5), row(6, 4, 4), row(2, 3, 9, 10),
                row(1, 6, 11), row(2, 10, 8, 12), row(0, 2), row(7, 4, 14), row(2, 3, 9, 15),
                row(1, 8, 16), row(2, 3, 13, 17), row(1, 6, 18), row(1, 7, 19));
        due("rule 10: h was made in the search", x.told(8, 1) * 100 + x.told(8, 2), 203);
    }

    private static void ruleElevenOr() {
        ProofSeeker x = withAtoms(2);
        x.join(IMPLIES, 1, 1);
        x.join(OR, 2, 3);
        proofIs("rule 11, RIGHT", x, 4, 4, row(0, 1), row(1, 3, 1), row(7, 4, 2));
        ProofSeeker y = withAtoms(2);
        y.join(IMPLIES, 1, 1);
        y.join(OR, 3, 2);
        proofIs("rule 11, LEFT", y, 4, 3, row(0, 1), row(1, 3, 1), row(6, 4, 2));
        ProofSeeker z = withAtoms(2);
        z.join(OR, 1, 2);
        due("rule 11, neither", z.prove(3, 3000), NO);
        due("rule 11, neither: used", z.used(), 3);
    }

    /** Neither part of the goal can be proved by itself: the nested one is tried after both. */
    private static void ruleElevenOrThenNested() {
        ProofSeeker x = withAtoms(3);
        x.join(IMPLIES, 1, 1);
        x.join(OR, 2, 3);
        x.join(IMPLIES, 4, 5);
        x.join(OR, 3, 2);
        x.join(IMPLIES, 6, 7);
        due("an OR by a nested one", x.proves(x.prove(8, 3000)), 1);
        // 8, 7; for 3: 3, 4, 1, 3 from the OR, 3 from 2; for 2: 2, 4, 1, 2, 2, 2 from 3; by 6:
        // 4, 1, 7 from the OR, 7 from 2: 3, 2, and 7 from 3: 3.
        due("an OR by a nested one: used", x.used(), 21);
    }

    private static void ruleElevenNested() {
        ProofSeeker x = withAtoms(3);
        x.join(IMPLIES, 1, 2);
        x.join(IMPLIES, 4, 3);
        x.join(IMPLIES, 2, 3);
        x.join(IMPLIES, 5, 6);
        proofIs("rule 11, nested", x, 7, 6,
                row(0, 3), row(1, 8, 1), row(0, 5), row(0, 2), row(1, 4, 4), row(1, 9, 5),
                row(2, 3, 3, 5), row(1, 6, 7), row(2, 4, 6, 8), row(2, 3, 3, 9), row(2, 3, 2, 10),
                row(1, 6, 11), row(1, 7, 12));
    }

    /** The least of two nested ones leads nowhere, as t is not found or as u is not. */
    private static void ruleElevenGoesOn() {
        ProofSeeker x = withAtoms(4);
        x.join(IMPLIES, 1, 2);
        x.join(IMPLIES, 5, 3);
        x.join(IMPLIES, 1, 1);
        x.join(IMPLIES, 7, 4);
        x.join(IMPLIES, 8, 4);
        x.join(IMPLIES, 6, 9);
        // 10, 9, 4 (given 6 and 8); by 6: 5, 2, there by 8: 7, 1 and 2, none; by 8: 7, 1, and 4.
        due("t is not found for the first", x.prove(10, 3000) > 0 ? 1 : 0, 1);
        due("t is not found for the first: used", x.used(), 11);
        ProofSeeker y = withAtoms(3);
        y.join(IMPLIES, 1, 1);
        y.join(IMPLIES, 4, 2);
        y.join(IMPLIES, 2, 2);
        y.join(IMPLIES, 6, 2);
        y.join(IMPLIES, 7, 3);
        y.join(IMPLIES, 5, 8);
        // 9, 8, 3 (given 5 and 7); by 5: 4, 1 and 3, there by 7: 6 and 3, none; by 7: 6 and 3,
        // there by 5: 4, 1 and 3, none.
        due("u is not found for either", y.prove(9, 3000), NO);
        due("u is not found for either: used", y.used(), 13);
    }

    /** Two given ones that could be fired: the least by number goes first, not the latest given. */
    private static void leastFirst() {
        ProofSeeker x = withAtoms(3);
        x.join(IMPLIES, 1, 2);
        x.join(IMPLIES, 1, 3);
        x.join(IMPLIES, 4, 3);
        x.join(IMPLIES, 5, 6);
        x.join(IMPLIES, 1, 7);
        due("least first: prove", x.prove(8, 3000) > 0 ? 1 : 0, 1);
        // 8; 7; 6; 3 by firing 4; 3 by firing 5; 3 is given. The other order would need one less.
        due("least first: used", x.used(), 6);
    }

    /** A given AND goes before a given OR of a lower number. */
    private static void rulesInOrder() {
        ProofSeeker x = withAtoms(3);
        x.join(OR, 1, 2);
        x.join(AND, 3, 3);
        x.join(IMPLIES, 5, 3);
        x.join(IMPLIES, 4, 6);
        due("rules in order: prove", x.prove(7, 3000) > 0 ? 1 : 0, 1);
        due("rules in order: used", x.used(), 4);
    }

    // Promises 10 and 11.

    private static void nodes() {
        ProofSeeker x = withAtoms(2);
        due("node 0", x.node(0, 1, 0, 0, 0), 1);
        due("node 0 whatever its parts", x.node(0, 1, -7, 99, LEAST), 1);
        due("node 1", x.node(1, 2, 1, 55, -1), 2);
        nodeIs("parts that it has not are 0", x, 2, 1, 2, 1, 0, 0);
        due("node 1 of itself made again", x.node(1, 2, 1, 0, 0), 2);
        due("node 2", x.node(2, 2, 1, 2, 77), 3);
        due("node 2, parts changed about", x.node(2, 2, 2, 1, 0), 4);
        due("node 8", x.node(8, 1, 3, 2, 1), 5);
        nodeIs("three parts", x, 5, 8, 1, 3, 2, 1);
        for (int wrong : row(-1, 10, LEAST, MOST)) {
            due("tag " + wrong, x.node(wrong, 1, 1, 1, 1), BAD);
        }
        for (int wrong : row(0, -1, 3, LEAST, MOST)) {
            due("goal " + wrong, x.node(0, wrong, 1, 1, 1), BAD);
        }
        for (int wrong : row(0, -1, 6, LEAST, MOST)) {
            due("no node of " + wrong, x.of(wrong, 0), BAD);
        }
        for (int wrong : row(-1, 5, LEAST, MOST)) {
            due("of(1, " + wrong + ")", x.of(1, wrong), BAD);
        }
        due("nodes after wrong ones", x.nodes(), 5);
    }

    private static void nodeParts() {
        int[] parts = {0, 1, 2, 2, 1, 1, 1, 1, 3, 1};
        for (int tag = 0; tag <= 9; tag++) {
            for (int wrong : row(0, -1, 5, LEAST, MOST)) {
                ProofSeeker x = withAtoms(1);
                x.node(0, 1, 0, 0, 0);
                String run = "tag " + tag + " with " + wrong + " as part ";
                due(run + 1, x.node(tag, 1, wrong, 1, 1), parts[tag] >= 1 ? BAD : 1);
                due(run + 2, x.node(tag, 1, 1, wrong, 1), parts[tag] >= 2 ? BAD : tag == 0 ? 1 : 2);
                due(run + 3, x.node(tag, 1, 1, 1, wrong), parts[tag] >= 3 ? BAD : tag == 0 ? 1 : 2);
            }
        }
    }

    // Promise 12.

    /** Statements 1 to 3 atoms, 4 FALSE, 5 = 1 AND 2, 6 = 1 OR 2, 7 = 1 IMPLIES 2; v(f) is f. */
    private static ProofSeeker workshop() {
        ProofSeeker x = withAtoms(3);
        x.falsehood();
        x.join(AND, 1, 2);
        x.join(OR, 1, 2);
        x.join(IMPLIES, 1, 2);
        for (int f = 1; f <= 7; f++) {
            due("v(" + f + ")", x.node(0, f, 0, 0, 0), f);
        }
        return x;
    }

    private static void isMade(ProofSeeker x, int want, int tag, int goal, int a, int b, int c) {
        int n = x.node(tag, goal, a, b, c);
        due("wellMade of " + tag + " " + goal + " " + a + " " + b + " " + c, x.wellMade(n), want);
    }

    private static void wellMade() {
        ProofSeeker x = workshop();
        for (int f = 1; f <= 7; f++) {
            isMade(x, 1, 0, f, 0, 0, 0);
            isMade(x, f == 2 ? 1 : 0, 1, 7, f, 0, 0);
            isMade(x, 0, 1, 6, f, 0, 0);
            isMade(x, f == 7 ? 1 : 0, 2, 2, f, 1, 0);
            isMade(x, f == 1 ? 1 : 0, 2, 2, 7, f, 0);
            isMade(x, f == 2 ? 1 : 0, 2, f, 7, 1, 0);
            isMade(x, f == 5 ? 1 : 0, 3, f, 1, 2, 0);
            isMade(x, f == 1 ? 1 : 0, 3, 5, f, 2, 0);
            isMade(x, f == 2 ? 1 : 0, 3, 5, 1, f, 0);
            isMade(x, f == 5 ? 1 : 0, 4, 1, f, 0, 0);
            isMade(x, f == 1 ? 1 : 0, 4, f, 5, 0, 0);
            isMade(x, f == 5 ? 1 : 0, 5, 2, f, 0, 0);
            isMade(x, f == 2 ? 1 : 0, 5, f, 5, 0, 0);
            isMade(x, f == 1 ? 1 : 0, 6, 6, f, 0, 0);
            isMade(x, f == 6 ? 1 : 0, 6, f, 1, 0, 0);
            isMade(x, f == 2 ? 1 : 0, 7, 6, f, 0, 0);
            isMade(x, f == 6 ? 1 : 0, 7, f, 2, 0, 0);
            isMade(x, f == 6 ? 1 : 0, 8, 3, f, 3, 3);
            isMade(x, f == 3 ? 1 : 0, 8, f, 6, 3, 3);
            isMade(x, f == 3 ? 1 : 0, 8, 3, 6, f, 3);
            isMade(x, f == 3 ? 1 : 0, 8, 3, 6, 3, f);
            isMade(x, f == 4 ? 1 : 0, 9, 3, f, 0, 0);
        }
        int ill = x.node(1, 6, 1, 0, 0);
        isMade(x, 0, 7, x.join(OR, 3, 6), ill, 0, 0);
        for (int wrong : row(0, -1, x.nodes() + 1, LEAST, MOST)) {
            due("wellMade(" + wrong + ")", x.wellMade(wrong), BAD);
        }
    }

    // Promises 13 to 15.

    private static void restsAre(String what, ProofSeeker x, int n, int... want) {
        due(what + ": rests", x.rests(n), want.length);
        int f = 0;
        for (int due : want) {
            f = x.restsOn(n, f);
            due(what + ": restsOn", f, due);
        }
        due(what + ": restsOn after all", x.restsOn(n, f), NO);
    }

    private static void rests() {
        ProofSeeker x = workshop();
        restsAre("GIVEN", x, 3, 3);
        restsAre("LAMBDA over another", x, x.node(1, 7, 2, 0, 0), 2);
        int applied = x.node(2, 2, 7, 1, 0);
        restsAre("APPLIED", x, applied, 1, 7);
        restsAre("LAMBDA", x, x.node(1, 7, applied, 0, 0), 7);
        int pair = x.node(3, 5, 1, 2, 0);
        restsAre("PAIR", x, pair, 1, 2);
        restsAre("FIRST", x, x.node(4, 1, pair, 0, 0), 1, 2);
        restsAre("SECOND", x, x.node(5, 2, 5, 0, 0), 5);
        restsAre("LEFT", x, x.node(6, 6, 1, 0, 0), 1);
        restsAre("RIGHT", x, x.node(7, 6, 2, 0, 0), 2);
        restsAre("ABSURD", x, x.node(9, 3, 4, 0, 0), 4);
        // A is left out of the second part alone, B of the third alone.
        restsAre("CASES, both as due", x, x.node(8, 1, 6, 1, applied), 1, 6, 7);
        restsAre("CASES, A and B the other way", x, x.node(8, 1, 6, 2, 1), 1, 2, 6);
        int right = x.node(7, 6, 2, 0, 0);
        int left = x.node(6, 6, 1, 0, 0);
        int cases = x.node(8, 6, 6, left, right);
        restsAre("CASES that leaves both out", x, cases, 6);
        restsAre("CASES, A is left out of the first part never", x, x.node(8, 3, left, 3, 3), 1, 3);
        restsAre("CASES, B neither", x, x.node(8, 3, right, 3, 3), 2, 3);
        int or = x.node(0, x.join(OR, 2, 1), 0, 0, 0);
        restsAre("CASES of another OR", x, x.node(8, 6, or, left, right), 1, 2, x.of(or, 1));
        for (int wrong : row(0, -1, x.nodes() + 1, LEAST, MOST)) {
            due("rests(" + wrong + ")", x.rests(wrong), BAD);
        }
    }

    /** What a node rests on does not wait for it to be well made. */
    private static void restsOfIllMade() {
        ProofSeeker x = workshop();
        int pair = x.node(3, 5, 1, 2, 0);
        restsAre("LAMBDA of no implication", x, x.node(1, 6, pair, 0, 0), 1, 2);
        restsAre("LAMBDA whose part has another goal", x, x.node(1, 7, pair, 0, 0), 2);
        restsAre("CASES of no OR", x, x.node(8, 5, 5, pair, pair), 1, 2, 5);
        restsAre("CASES of an AND", x, x.node(8, 1, 5, 1, 2), 1, 2, 5);
        restsAre("CASES of an implication", x, x.node(8, 1, 7, 1, 2), 1, 2, 7);
        restsAre("CASES with other goals", x, x.node(8, 7, 6, pair, 2), 2, 6);
    }

    private static void restsOn() {
        ProofSeeker x = workshop();
        int applied = x.node(2, 2, 7, 1, 0);
        int[] froms = {LEAST, -1, 0, 1, 2, 6, 7, 8, 600, 601, MOST};
        int[] want = {1, 1, 1, 7, 7, 7, NO, NO, NO, NO, NO};
        for (int k = 0; k < froms.length; k++) {
            due("restsOn above " + froms[k], x.restsOn(applied, froms[k]), want[k]);
        }
        for (int wrong : row(0, -1, x.nodes() + 1, LEAST, MOST)) {
            due("restsOn(" + wrong + ", 0)", x.restsOn(wrong, 0), BAD);
        }
    }

    private static void proves() {
        ProofSeeker x = workshop();
        due("GIVEN proves", x.proves(1), 0);
        int same = x.join(IMPLIES, 1, 1);
        due("LAMBDA proves", x.proves(x.node(1, same, 1, 0, 0)), 1);
        int odd = x.join(IMPLIES, 1, 2);
        int ill = x.node(1, odd, 1, 0, 0);
        due("ill made, rests", x.rests(ill), 0);
        due("ill made, proves", x.proves(ill), 0);
        due("well made, rests on something", x.proves(x.node(2, 2, 7, 1, 0)), 0);
        for (int wrong : row(0, -1, x.nodes() + 1, LEAST, MOST)) {
            due("proves(" + wrong + ")", x.proves(wrong), BAD);
        }
    }

    // Promise 16.
    private static void truth() {
        ProofSeeker x = new ProofSeeker();
        x.atom(0);
        x.atom(31);
        x.falsehood();
        x.join(AND, 1, 2);
        x.join(OR, 1, 2);
        x.join(IMPLIES, 1, 2);
        x.join(IMPLIES, 1, 3);
        x.join(OR, 1, 7);
        int[][] want = {
            {0, 0, 0, 0, 0, 1, 1, 1},
            {1, 0, 0, 0, 1, 0, 0, 1},
            {0, 1, 0, 0, 1, 1, 1, 1},
            {1, 1, 0, 1, 1, 1, 0, 1},
        };
        for (int k = 0; k < 4; k++) {
            int atoms = (k & 1) | (k & 2) << 30;
            for (int f = 1; f <= 8; f++) {
                due("isTrue(" + f + ", " + atoms + ")", x.isTrue(f, atoms), want[k][f - 1]);
                int others = atoms | 0x7ffffffe;
                due("isTrue(" + f + ", " + others + ")", x.isTrue(f, others), want[k][f - 1]);
            }
        }
        for (int wrong : row(0, -1, 9, LEAST, MOST)) {
            due("isTrue(" + wrong + ", 0)", x.isTrue(wrong, 0), BAD);
        }
    }
}
