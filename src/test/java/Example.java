/**
 * A statement whose search goes by a rule, with what was counted by hand for a new object: how many
 * sequents are looked at, how deep the deepest lies, how many nodes the proof has (0: there is
 * none), how many statements come that are not there and how many sequents were looked at by
 * then, and how many goals of nodes are not there.
 */
record Example(
        String name, String text, int fuel, int depth, int nodes, int comes, int by, int goals) {
    static final Example[] ALL = {
        new Example("rule 1", "(a>a)", 2, 2, 2, 0, 0, 0),
        new Example("rule 2", "(0>a)", 2, 2, 3, 0, 0, 0),
        new Example("rule 3", "(a>(a&a))", 4, 3, 3, 0, 0, 0),
        new Example("rule 4", "(a>(b>a))", 3, 3, 3, 0, 0, 0),
        new Example("rule 5", "((a&b)>a)", 3, 3, 9, 0, 0, 2),
        new Example("rule 6", "((a|b)>(b|a))", 7, 4, 7, 0, 0, 0),
        new Example("rule 7", "(a>((a>b)>b))", 4, 4, 8, 0, 0, 1),
        new Example("rule 8", "((0>a)>(b>(b|a)))", 5, 5, 4, 0, 0, 0),
        new Example("rule 9", "(((a&b)>c)>(a>(b>c)))", 7, 7, 21, 0, 0, 3),
        new Example("rule 10", "(((a|b)>c)>(a>c))", 5, 5, 20, 1, 3, 3),
        new Example("rule 11, LEFT", "((a>a)|b)", 3, 3, 3, 0, 0, 0),
        new Example("rule 11, RIGHT", "(b|(a>a))", 4, 3, 3, 0, 0, 0),
        new Example("rule 11, LEFT from what is given", "(a>(a|b))", 3, 3, 3, 0, 0, 0),
        new Example("rule 11, RIGHT from what is given", "(a>(b|a))", 4, 3, 3, 0, 0, 0),
        new Example("rule 11, t deeper", "(((a>b)>c)>(b>c))", 6, 5, 13, 0, 0, 2),
        new Example("rule 11, u deeper", "(((a>a)>b)>((b>(b>c))>c))", 8, 6, 22, 1, 3, 3),
        new Example("an atom in vain", "a", 1, 1, 0, 0, 0, 0),
        new Example("FALSE in vain", "0", 1, 1, 0, 0, 0, 0),
        new Example("rule 3 in vain", "(a&b)", 2, 2, 0, 0, 0, 0),
        new Example("rule 4 in vain", "(a>b)", 2, 2, 0, 0, 0, 0),
        new Example("rule 5 in vain", "((a&b)>c)", 3, 3, 0, 0, 0, 0),
        new Example("rule 6 in vain", "((a|b)>c)", 3, 3, 0, 0, 0, 0),
        new Example("rule 6 in vain, the second", "((a|b)>a)", 4, 3, 0, 0, 0, 0),
        new Example("rule 7 in vain", "(a>((a>b)>c))", 4, 4, 0, 0, 0, 0),
        new Example("rule 8 in vain", "((0>a)>b)", 3, 3, 0, 0, 0, 0),
        new Example("rule 9 in vain", "(((a&b)>c)>d)", 3, 3, 0, 2, 2, 0),
        new Example("rule 10 in vain", "(((a|b)>c)>d)", 3, 3, 0, 2, 2, 0),
        new Example("rule 11 in vain, both", "(a|b)", 3, 2, 0, 0, 0, 0),
        new Example("rule 11 in vain, no t", "(((a>b)>c)>d)", 4, 4, 0, 1, 2, 0),
        new Example("rule 11 in vain, B is not given for t", "(((a>b)>b)>b)", 4, 4, 0, 1, 2, 0),
        new Example("rule 11 in vain, no u", "(((a>a)>c)>d)", 5, 4, 0, 1, 2, 0),
    };

    boolean isProvable() {
        return nodes > 0;
    }

    /** What prove answers on a new object, with fuel and room. */
    int answer() {
        return nodes > 0 ? nodes : ProofSeeker.NO;
    }
}
