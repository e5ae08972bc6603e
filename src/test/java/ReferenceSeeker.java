import java.util.ArrayList;
import java.util.HashMap;
import java.util.List;
import java.util.Map;
import java.util.TreeSet;

/**
 * The document's words again, written for plainness with the whole Java library and no thought of
 * room or speed, so that ProofSeeker's answers can be held against it.
 */
final class ReferenceSeeker {
    static final int BAD = -1;
    static final int NO = -2;
    static final int FULL = -3;
    static final int OUT = -4;

    private static final int[] PARTS = {0, 1, 2, 2, 1, 1, 1, 1, 3, 1};

    /** Ends a search, or the making of its nodes. */
    private static final class Ended extends RuntimeException {
        private static final long serialVersionUID = 1L;
        final int answer;

        Ended(int answer) {
            super(null, null, false, false);
            this.answer = answer;
        }
    }

    /** A proof before its nodes are made; of a lambda x is what it leaves out, else the goal. */
    private static final class Term {
        final int tag;
        final int x;
        final Term[] parts;

        Term(int tag, int x, Term... parts) {
            this.tag = tag;
            this.x = x;
            this.parts = parts;
        }
    }

    private final List<int[]> statements = new ArrayList<>();
    private final Map<List<Integer>, Integer> statementNumbers = new HashMap<>();
    private final List<int[]> nodes = new ArrayList<>();
    private final Map<List<Integer>, Integer> nodeNumbers = new HashMap<>();
    private final Map<Integer, TreeSet<Integer>> rests = new HashMap<>();
    private final Map<Integer, Boolean> soundness = new HashMap<>();
    private int used = 0;
    private int fuelLeft = 0;

    int atom(int i) {
        return i < 0 || i > 31 ? BAD : statement(0, i, 0);
    }

    int falsehood() {
        return statement(1, 0, 0);
    }

    int join(int sort, int a, int b) {
        return sort < 2 || sort > 4 || !isStatement(a) || !isStatement(b) ? BAD : statement(sort, a, b);
    }

    int told(int f, int what) {
        return !isStatement(f) || what < 0 || what > 2 ? BAD : statements.get(f - 1)[what];
    }

    int statements() {
        return statements.size();
    }

    int nodes() {
        return nodes.size();
    }

    int prove(int f, int fuel) {
        if (!isStatement(f) || fuel < 0 || fuel > 3000) {
            return BAD;
        }
        fuelLeft = fuel;
        Term proof;
        try {
            proof = look(new TreeSet<>(), f, 1);
        } catch (Ended ended) {
            used = ended.answer == OUT ? fuel : fuel - fuelLeft;
            return ended.answer;
        }
        used = fuel - fuelLeft;
        if (proof == null) {
            return NO;
        }
        try {
            return emit(proof);
        } catch (Ended ended) {
            return ended.answer;
        }
    }

    int used() {
        return used;
    }

    int node(int tag, int goal, int a, int b, int c) {
        if (tag < 0 || tag > 9 || !isStatement(goal)) {
            return BAD;
        }
        int[] made = {tag, goal, 0, 0, 0};
        int[] parts = {a, b, c};
        for (int k = 0; k < PARTS[tag]; k++) {
            if (!isNode(parts[k])) {
                return BAD;
            }
            made[2 + k] = parts[k];
        }
        return keep(made);
    }

    int of(int node, int what) {
        return !isNode(node) || what < 0 || what > 4 ? BAD : nodes.get(node - 1)[what];
    }

    int wellMade(int node) {
        return !isNode(node) ? BAD : isSound(node) ? 1 : 0;
    }

    int rests(int node) {
        return !isNode(node) ? BAD : restSet(node).size();
    }

    int restsOn(int node, int f) {
        if (!isNode(node)) {
            return BAD;
        }
        Integer least = restSet(node).higher(f);
        return least == null ? NO : least;
    }

    int proves(int node) {
        return !isNode(node) ? BAD : isSound(node) && restSet(node).isEmpty() ? 1 : 0;
    }

    int isTrue(int f, int atoms) {
        return !isStatement(f) ? BAD : truth(f, atoms, new HashMap<>()) ? 1 : 0;
    }

    private boolean truth(int f, int atoms, Map<Integer, Boolean> known) {
        Boolean before = known.get(f);
        if (before != null) {
            return before;
        }
        boolean now;
        switch (sort(f)) {
            case 0: now = (atoms & 1 << left(f)) != 0; break;
            case 1: now = false; break;
            case 2: now = truth(left(f), atoms, known) & truth(right(f), atoms, known); break;
            case 3: now = truth(left(f), atoms, known) | truth(right(f), atoms, known); break;
            default: now = !truth(left(f), atoms, known) | truth(right(f), atoms, known); break;
        }
        known.put(f, now);
        return now;
    }

    private boolean isStatement(int f) {
        return f >= 1 && f <= statements.size();
    }

    private boolean isNode(int n) {
        return n >= 1 && n <= nodes.size();
    }

    private int sort(int f) {
        return statements.get(f - 1)[0];
    }

    private int left(int f) {
        return statements.get(f - 1)[1];
    }

    private int right(int f) {
        return statements.get(f - 1)[2];
    }

    private int goal(int n) {
        return nodes.get(n - 1)[1];
    }

    private int statement(int sort, int a, int b) {
        Integer there = statementNumbers.get(List.of(sort, a, b));
        if (there != null) {
            return there;
        }
        if (statements.size() == 600) {
            return FULL;
        }
        statements.add(new int[] {sort, a, b});
        statementNumbers.put(List.of(sort, a, b), statements.size());
        return statements.size();
    }

    private int keep(int[] made) {
        List<Integer> key = List.of(made[0], made[1], made[2], made[3], made[4]);
        Integer there = nodeNumbers.get(key);
        if (there != null) {
            return there;
        }
        if (nodes.size() == 8000) {
            return FULL;
        }
        nodes.add(made);
        nodeNumbers.put(key, nodes.size());
        return nodes.size();
    }

    private boolean isSound(int n) {
        Boolean known = soundness.get(n);
        if (known == null) {
            known = judge(n);
            soundness.put(n, known);
        }
        return known;
    }

    private boolean judge(int n) {
        int[] node = nodes.get(n - 1);
        int own = node[1];
        int[] of = new int[3];
        for (int k = 0; k < PARTS[node[0]]; k++) {
            if (!isSound(node[2 + k])) {
                return false;
            }
            of[k] = goal(node[2 + k]);
        }
        switch (node[0]) {
            case 0: return true;
            case 1: return sort(own) == 4 && right(own) == of[0];
            case 2: return sort(of[0]) == 4 && left(of[0]) == of[1] && right(of[0]) == own;
            case 3: return sort(own) == 2 && left(own) == of[0] && right(own) == of[1];
            case 4: return sort(of[0]) == 2 && left(of[0]) == own;
            case 5: return sort(of[0]) == 2 && right(of[0]) == own;
            case 6: return sort(own) == 3 && left(own) == of[0];
            case 7: return sort(own) == 3 && right(own) == of[0];
            case 8: return sort(of[0]) == 3 && of[1] == own && of[2] == own;
            default: return sort(of[0]) == 1;
        }
    }

    private TreeSet<Integer> restSet(int n) {
        TreeSet<Integer> known = rests.get(n);
        if (known == null) {
            known = gatherRests(n);
            rests.put(n, known);
        }
        return known;
    }

    private TreeSet<Integer> gatherRests(int n) {
        int[] node = nodes.get(n - 1);
        TreeSet<Integer> all = new TreeSet<>();
        if (node[0] == 0) {
            all.add(node[1]);
        }
        for (int k = 0; k < PARTS[node[0]]; k++) {
            TreeSet<Integer> part = new TreeSet<>(restSet(node[2 + k]));
            if (node[0] == 1 && sort(node[1]) == 4) {
                part.remove(left(node[1]));
            }
            int first = goal(node[2]);
            if (node[0] == 8 && k > 0 && sort(first) == 3) {
                part.remove(k == 1 ? left(first) : right(first));
            }
            all.addAll(part);
        }
        return all;
    }

    // The search.

    private int wanted(int from, int to) {
        int made = statement(4, from, to);
        if (made == FULL) {
            throw new Ended(FULL);
        }
        return made;
    }

    private static TreeSet<Integer> change(TreeSet<Integer> given, int goes, int... come) {
        TreeSet<Integer> changed = new TreeSet<>(given);
        changed.remove(goes);
        for (int f : come) {
            changed.add(f);
        }
        return changed;
    }

    private static Term v(int f) {
        return new Term(0, f);
    }

    private static Term l(int from, Term t) {
        return new Term(1, from, t);
    }

    private static Term a(Term t, Term u) {
        return new Term(2, 0, t, u);
    }

    private Term look(TreeSet<Integer> given, int goal, int depth) {
        if (depth > 80 || fuelLeft == 0) {
            throw new Ended(OUT);
        }
        fuelLeft--;
        int deeper = depth + 1;
        if (given.contains(goal)) {
            return v(goal);
        }
        for (int f : given) {
            if (sort(f) == 1) {
                return new Term(9, goal, v(f));
            }
        }
        if (sort(goal) == 2) {
            Term t = look(given, left(goal), deeper);
            Term u = t == null ? null : look(given, right(goal), deeper);
            return u == null ? null : new Term(3, goal, t, u);
        }
        if (sort(goal) == 4) {
            Term t = look(change(given, 0, left(goal)), right(goal), deeper);
            return t == null ? null : l(left(goal), t);
        }
        for (int rule = 5; rule <= 10; rule++) {
            for (int f : given) {
                if (fits(rule, f, given)) {
                    return byRule(rule, f, given, goal, deeper);
                }
            }
        }
        return byChoice(given, goal, deeper);
    }

    private boolean fits(int rule, int f, TreeSet<Integer> given) {
        switch (rule) {
            case 5: return sort(f) == 2;
            case 6: return sort(f) == 3;
            case 7: return sort(f) == 4 && given.contains(left(f));
            case 8: return sort(f) == 4 && sort(left(f)) == 1;
            case 9: return sort(f) == 4 && sort(left(f)) == 2;
            default: return sort(f) == 4 && sort(left(f)) == 3;
        }
    }

    private Term byRule(int rule, int f, TreeSet<Integer> given, int goal, int deeper) {
        int x = left(f);
        int y = right(f);
        if (rule == 5) {
            Term t = look(change(given, f, x, y), goal, deeper);
            return t == null ? null
                    : a(a(l(x, l(y, t)), new Term(4, x, v(f))), new Term(5, y, v(f)));
        }
        if (rule == 6) {
            Term t = look(change(given, f, x), goal, deeper);
            Term u = t == null ? null : look(change(given, f, y), goal, deeper);
            return u == null ? null : new Term(8, goal, v(f), t, u);
        }
        if (rule == 7) {
            Term t = look(change(given, f, y), goal, deeper);
            return t == null ? null : a(l(y, t), a(v(f), v(x)));
        }
        if (rule == 8) {
            return look(change(given, f), goal, deeper);
        }
        int c = left(x);
        int d = right(x);
        if (rule == 9) {
            int g = wanted(c, wanted(d, y));
            Term t = look(change(given, f, g), goal, deeper);
            return t == null ? null
                    : a(l(g, t), l(c, l(d, a(v(f), new Term(3, x, v(c), v(d))))));
        }
        int g = wanted(c, y);
        int h = wanted(d, y);
        Term t = look(change(given, f, g, h), goal, deeper);
        return t == null ? null
                : a(a(l(g, l(h, t)), l(c, a(v(f), new Term(6, x, v(c))))),
                        l(d, a(v(f), new Term(7, x, v(d)))));
    }

    private Term byChoice(TreeSet<Integer> given, int goal, int deeper) {
        if (sort(goal) == 3) {
            Term t = look(given, left(goal), deeper);
            if (t != null) {
                return new Term(6, goal, t);
            }
            t = look(given, right(goal), deeper);
            if (t != null) {
                return new Term(7, goal, t);
            }
        }
        for (int f : given) {
            if (sort(f) != 4 || sort(left(f)) != 4) {
                continue;
            }
            int b = right(f);
            int c = left(left(f));
            int d = right(left(f));
            int g = wanted(d, b);
            Term t = look(change(given, f, g), left(f), deeper);
            Term u = t == null ? null : look(change(given, f, b), goal, deeper);
            if (u != null) {
                return a(l(b, u), a(v(f), a(l(g, t), l(d, a(v(f), l(c, v(d)))))));
            }
        }
        return null;
    }

    private int emit(Term term) {
        int[] made = {term.tag, term.x, 0, 0, 0};
        for (int k = 0; k < term.parts.length; k++) {
            made[2 + k] = emit(term.parts[k]);
        }
        if (term.tag == 1) {
            made[1] = wanted(term.x, goal(made[2]));
        }
        if (term.tag == 2) {
            made[1] = right(goal(made[2]));
        }
        int number = keep(made);
        if (number == FULL) {
            throw new Ended(FULL);
        }
        return number;
    }
}
