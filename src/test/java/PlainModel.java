import java.util.ArrayList;
import java.util.List;

/**
 * The document once more, in another way: trees of objects, everything written out and tried, nothing kept.
 * It is slow and only there to be compared with.
 */
final class PlainModel {
    static final int NONE = -1, BAD = -2, NO = -3, FULL = -4, SPENT = -5;

    /** A leaf has act -1. */
    record Tree(int act, List<Tree> below) {
        boolean isLeaf() {
            return act < 0;
        }

        int leaves() {
            return isLeaf() ? 1 : below.stream().mapToInt(Tree::leaves).sum();
        }

        int size() {
            return isLeaf() ? 0 : 1 + below.stream().mapToInt(Tree::size).sum();
        }

        int height() {
            return isLeaf() ? 0 : 1 + below.stream().mapToInt(Tree::height).max().orElse(0);
        }

        int symbols() {
            return leaves() + size();
        }

        void write(List<Integer> to) {
            to.add(act);
            below.forEach(t -> t.write(to));
        }

        List<Integer> written() {
            List<Integer> row = new ArrayList<>();
            write(row);
            return row;
        }
    }

    /** Right is null: nothing. */
    record Rule(Tree left, Tree right) {}

    record Overlap(int p, int q, int u, Tree top) {}

    static final Tree LEAF = new Tree(-1, List.of());

    final List<Integer> acts = new ArrayList<>();
    final List<Rule> rules = new ArrayList<>();
    final List<List<Integer>> rows = new ArrayList<>();

    PlainModel() {
        for (int i = 0; i < 10; i++) rows.add(new ArrayList<>());
    }

    // ---- trees and rows

    private int cursor;

    /** Null if the row is no tree. */
    Tree parse(List<Integer> row) {
        cursor = 0;
        Tree tree = parseHere(row);
        return cursor == row.size() ? tree : null;
    }

    private Tree parseHere(List<Integer> row) {
        if (cursor >= row.size()) {
            cursor = row.size() + 1;
            return null;
        }
        int symbol = row.get(cursor++);
        if (symbol < 0) return LEAF;
        List<Tree> below = new ArrayList<>();
        for (int k = 0; k < acts.get(symbol); k++) {
            Tree t = parseHere(row);
            if (t == null) return null;
            below.add(t);
        }
        return new Tree(symbol, below);
    }

    Tree treeOf(int row) {
        return isRow(row) ? parse(rows.get(row)) : null;
    }

    static boolean isRow(int row) {
        return row >= 0 && row <= 9;
    }

    /** The subtree at a place, with places counted in the order of symbols. */
    static Tree subtree(Tree tree, int place) {
        if (place == 0) return tree;
        int before = 1;
        for (Tree t : tree.below) {
            if (place < before + t.symbols()) return subtree(t, place - before);
            before += t.symbols();
        }
        throw new IllegalStateException();
    }

    static Tree replaced(Tree tree, int place, Tree by) {
        if (place == 0) return by;
        List<Tree> below = new ArrayList<>();
        int before = 1;
        for (Tree t : tree.below) {
            boolean inside = place >= before && place < before + t.symbols();
            below.add(inside ? replaced(t, place - before, by) : t);
            before += t.symbols();
        }
        return new Tree(tree.act, below);
    }

    // ---- rules

    static boolean fits(Tree left, Tree tree, List<Tree> caught) {
        if (left.isLeaf()) {
            caught.add(tree);
            return true;
        }
        if (left.act != tree.act) return false;
        for (int k = 0; k < left.below.size(); k++) {
            if (!fits(left.below.get(k), tree.below.get(k), caught)) return false;
        }
        return true;
    }

    static Tree filled(Tree right, List<Tree> caught, int[] next) {
        if (right.isLeaf()) return caught.get(next[0]++);
        List<Tree> below = new ArrayList<>();
        for (Tree t : right.below) below.add(filled(t, caught, next));
        return new Tree(right.act, below);
    }

    static int firstPlace(Rule rule, Tree tree) {
        for (int u = 0; u < tree.symbols(); u++) {
            if (fits(rule.left, subtree(tree, u), new ArrayList<>())) return u;
        }
        return NONE;
    }

    static boolean isNormal(List<Rule> rules, Tree tree) {
        return rules.stream().allMatch(r -> firstPlace(r, tree) == NONE);
    }

    /** What a rule makes at a place; null: nothing. */
    static Tree used(Rule rule, Tree tree, int u) {
        List<Tree> caught = new ArrayList<>();
        if (!fits(rule.left, subtree(tree, u), caught)) throw new IllegalStateException();
        return rule.right == null ? null : replaced(tree, u, filled(rule.right, caught, new int[1]));
    }

    /** After one step; the same object if the tree is normal; null: nothing. */
    Tree stepped(Tree tree) {
        for (int u = 0; u < tree.symbols(); u++) {
            for (Rule rule : rules) {
                if (fits(rule.left, subtree(tree, u), new ArrayList<>())) return used(rule, tree, u);
            }
        }
        return tree;
    }

    /** How a way down to the normal form ended; tree null: nothing. */
    record Form(boolean spent, int steps, Tree tree) {}

    Form formOf(Tree start) {
        Tree tree = start;
        int steps = 0;
        while (tree != null && !isNormal(rules, tree)) {
            if (steps == 200) return new Form(true, 0, null);
            tree = stepped(tree);
            steps++;
            if (tree != null && tree.symbols() > 60) return new Form(true, 0, null);
        }
        return new Form(false, steps, tree);
    }

    /** Null: they clash. */
    static Tree merged(Tree a, Tree b) {
        if (a.isLeaf()) return b;
        if (b.isLeaf()) return a;
        if (a.act != b.act) return null;
        List<Tree> below = new ArrayList<>();
        for (int k = 0; k < a.below.size(); k++) {
            Tree t = merged(a.below.get(k), b.below.get(k));
            if (t == null) return null;
            below.add(t);
        }
        return new Tree(a.act, below);
    }

    List<Overlap> allOverlaps() {
        List<Overlap> found = new ArrayList<>();
        for (int p = 0; p < rules.size(); p++) {
            for (int q = 0; q < rules.size(); q++) {
                Tree left = rules.get(p).left;
                for (int u = 0; u < left.symbols(); u++) {
                    Tree at = subtree(left, u);
                    if (at.isLeaf() || (u == 0 && p >= q)) continue;
                    Tree inner = merged(at, rules.get(q).left);
                    if (inner != null) found.add(new Overlap(p, q, u, replaced(left, u, inner)));
                }
            }
        }
        return found;
    }

    // ---- counts

    List<Tree> allTrees(int leaves) {
        List<Tree> found = new ArrayList<>();
        if (leaves == 1) found.add(LEAF);
        for (int act = 0; act < acts.size(); act++) {
            for (List<Tree> below : allRows(acts.get(act), leaves)) found.add(new Tree(act, below));
        }
        return found;
    }

    private List<List<Tree>> allRows(int length, int leaves) {
        List<List<Tree>> found = new ArrayList<>();
        if (length == 0) {
            if (leaves == 0) found.add(List.of());
            return found;
        }
        for (int n = 1; n <= leaves - (length - 1); n++) {
            List<List<Tree>> rest = allRows(length - 1, leaves - n);
            if (rest.isEmpty()) continue;
            for (Tree first : allTrees(n)) {
                for (List<Tree> others : rest) {
                    List<Tree> row = new ArrayList<>();
                    row.add(first);
                    row.addAll(others);
                    found.add(row);
                }
            }
        }
        return found;
    }

    private long normalTrees(List<Rule> by, int n) {
        return allTrees(n).stream().filter(t -> isNormal(by, t)).count();
    }

    private static long products(long[] d, int k, int n) {
        if (k == 0) return n == 0 ? 1 : 0;
        long sum = 0;
        for (int m = 1; m <= n; m++) sum += d[m] * products(d, k - 1, n - m);
        return sum;
    }

    private List<Tree> treesOfSizeTwo() {
        List<Tree> found = new ArrayList<>();
        for (Tree t : allTrees(3)) if (t.size() == 2) found.add(t);
        return found;
    }

    // ---- the calls

    int act(int entries) {
        if (entries < 2 || entries > 3) return BAD;
        if (acts.size() == 4) return FULL;
        acts.add(entries);
        return acts.size() - 1;
    }

    int put(int row, int symbol) {
        if (!isRow(row) || symbol < -1 || symbol >= acts.size()) return BAD;
        if (rows.get(row).size() == 60) return FULL;
        rows.get(row).add(symbol);
        return rows.get(row).size();
    }

    int empty(int row) {
        if (!isRow(row)) return BAD;
        int had = rows.get(row).size();
        rows.get(row).clear();
        return had;
    }

    int at(int row, int i) {
        if (!isRow(row)) return BAD;
        return i < 0 || i >= rows.get(row).size() ? -100 : rows.get(row).get(i);
    }

    int about(int row, int what) {
        if (!isRow(row) || what < 0 || what > 4) return BAD;
        Tree tree = treeOf(row);
        if (what == 0) return rows.get(row).size();
        if (what == 1) return tree == null ? 0 : 1;
        if (tree == null) return NO;
        return what == 2 ? tree.leaves() : what == 3 ? tree.size() : tree.height();
    }

    int graft(int a, int i, int b, int to) {
        Tree outer = treeOf(a);
        Tree inner = treeOf(b);
        if (outer == null || inner == null || !isRow(to) || i < 0 || i >= outer.leaves()) return BAD;
        List<Integer> row = new ArrayList<>();
        int leaf = 0;
        for (int symbol : outer.written()) {
            if (symbol == NONE && leaf++ == i) row.addAll(inner.written());
            else row.add(symbol);
        }
        return row.size() > 60 ? FULL : bring(row, to);
    }

    private int bring(List<Integer> row, int to) {
        rows.set(to, new ArrayList<>(row));
        return row.size();
    }

    int same(int a, int b) {
        Tree one = treeOf(a);
        Tree other = treeOf(b);
        return one == null || other == null ? BAD : one.equals(other) ? 1 : 0;
    }

    int rule(int left, int right) {
        Tree l = treeOf(left);
        Tree r = treeOf(right);
        if (l == null || r == null || l.size() < 1 || l.size() > 4) return BAD;
        if (l.leaves() != r.leaves()) return NO;
        if (rules.size() == 8) return FULL;
        rules.add(new Rule(l, r));
        return rules.size() - 1;
    }

    int nought(int left) {
        Tree l = treeOf(left);
        if (l == null || l.size() < 1 || l.size() > 4) return BAD;
        if (rules.size() == 8) return FULL;
        rules.add(new Rule(l, null));
        return rules.size() - 1;
    }

    int unrule() {
        int had = rules.size();
        rules.clear();
        return had;
    }

    int side(int rule, int which, int to) {
        if (rule < 0 || rule >= rules.size() || which < 0 || which > 1 || !isRow(to)) return BAD;
        Tree tree = which == 0 ? rules.get(rule).left : rules.get(rule).right;
        return bring(tree == null ? List.of() : tree.written(), to);
    }

    int matches(int rule, int row) {
        Tree tree = treeOf(row);
        if (rule < 0 || rule >= rules.size() || tree == null) return BAD;
        return firstPlace(rules.get(rule), tree);
    }

    int step(int row) {
        Tree tree = treeOf(row);
        if (tree == null) return BAD;
        if (isNormal(rules, tree)) return 0;
        Tree after = stepped(tree);
        if (after == null) {
            rows.get(row).clear();
            return 2;
        }
        if (after.symbols() > 60) return SPENT;
        bring(after.written(), row);
        return 1;
    }

    int normal(int row) {
        Tree tree = treeOf(row);
        if (tree == null) return BAD;
        Form form = formOf(tree);
        if (form.spent) return SPENT;
        bring(form.tree == null ? List.of() : form.tree.written(), row);
        return form.tree == null ? -10 - form.steps : form.steps;
    }

    long howMany(int n) {
        return n < 1 || n > 6 ? BAD : normalTrees(rules, n);
    }

    int overlaps() {
        return allOverlaps().size();
    }

    int overlap(int i, int to) {
        if (i < 0 || !isRow(to)) return BAD;
        List<Overlap> all = allOverlaps();
        if (i >= all.size()) return NONE;
        Overlap o = all.get(i);
        bring(o.top.written(), to);
        return 1000 * o.p + 100 * o.q + o.u;
    }

    int closes() {
        List<Overlap> all = allOverlaps();
        for (int i = 0; i < all.size(); i++) {
            Overlap o = all.get(i);
            Tree byP = used(rules.get(o.p), o.top, 0);
            Tree byQ = used(rules.get(o.q), o.top, o.u);
            Form one = byP == null ? new Form(false, 0, null) : formOf(byP);
            Form other = byQ == null ? new Form(false, 0, null) : formOf(byQ);
            if (one.spent || other.spent) return SPENT;
            boolean alike = one.tree == null ? other.tree == null : one.tree.equals(other.tree);
            if (!alike) return i;
        }
        return NONE;
    }

    long turned(int n) {
        if (n < 1 || n > 6) return BAD;
        long[] d = new long[7];
        d[1] = 1;
        for (int m = 2; m <= n; m++) {
            // With d(m) still 0, the sum lacks just c(1) d(m), and c(1) is 1.
            long sum = 0;
            for (int k = 1; k <= m; k++) sum += howMany(k) * products(d, k, m);
            d[m] = -sum;
        }
        return d[n];
    }

    long dual(int n) {
        if (n < 1 || n > 6) return BAD;
        if (acts.contains(3)) return NO;
        for (Rule r : rules) if (r.right != null || r.left.size() != 2) return NO;
        List<Rule> dualRules = new ArrayList<>();
        for (Tree t : treesOfSizeTwo()) {
            if (rules.stream().noneMatch(r -> r.left.equals(t))) dualRules.add(new Rule(t, null));
        }
        return normalTrees(dualRules, n);
    }

    int count(int what) {
        switch (what) {
            case 0: return acts.size();
            case 1: return rules.size();
            case 2: return (int) rows.stream().filter(r -> parse(r) != null).count();
            case 3: return (int) rules.stream().filter(r -> r.right == null).count();
            default: return BAD;
        }
    }

    long digest() {
        List<Integer> values = new ArrayList<>();
        for (int what = 0; what < 4; what++) values.add(count(what));
        values.addAll(acts);
        for (List<Integer> row : rows) {
            values.addAll(row);
            values.add(9);
        }
        for (Rule r : rules) {
            values.addAll(r.left.written());
            values.add(9);
            if (r.right != null) values.addAll(r.right.written());
            values.add(9);
        }
        long h = 227;
        for (int v : values) h = 31 * h + v;
        return h;
    }
}
