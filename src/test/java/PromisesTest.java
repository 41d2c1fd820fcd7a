/** For each promise of the document: ordinary inputs, the edges it names, and wrong inputs. */
public final class PromisesTest extends Checks {
    public static void main(String[] args) {
        newObject();
        act();
        put();
        empty();
        at();
        about();
        graft();
        same();
        rule();
        nought();
        unrule();
        side();
        matches();
        step();
        normal();
        normalAtTheEdge();
        howMany();
        overlaps();
        overlap();
        overlapFarBack();
        closes();
        turned();
        dual();
        count();
        digest();
        finish();
    }

    // ---- the promises

    private static void newObject() {
        LeafTrees x = new LeafTrees();
        for (int what = 0; what < 4; what++) due(1, "count", x.count(what), 0);
        for (int row = 0; row < 10; row++) due(1, "about", x.about(row, 0), 0);
        due(1, "howMany(1)", x.howMany(1), 1);
        due(1, "howMany(2)", x.howMany(2), 0);
        LeafTrees other = new LeafTrees();
        other.act(2);
        due(1, "another object's acts", x.count(0), 0);
    }

    private static void act() {
        LeafTrees x = new LeafTrees();
        for (int bad : new int[] {0, 1, 4, -1, -2, MAX, MIN}) due(2, "act(" + bad + ")", x.act(bad), -2);
        due(2, "first", x.act(2), 0);
        due(2, "second", x.act(3), 1);
        due(2, "third", x.act(3), 2);
        due(2, "fourth", x.act(2), 3);
        due(2, "fifth", x.act(2), -4);
        due(2, "BAD before FULL", x.act(4), -2);
        due(2, "still four", x.count(0), 4);
        due(2, "counts learn of acts", x.howMany(2), 2);
        LeafTrees y = world(2);
        due(2, "before", y.howMany(3), 2);
        y.act(3);
        due(2, "after", y.howMany(3), 3);
    }

    private static void put() {
        LeafTrees x = world(2);
        for (int row : new int[] {-1, 10, MAX, MIN}) due(3, "row " + row, x.put(row, -1), -2);
        for (int symbol : new int[] {-2, 1, 4, MAX, MIN}) due(3, "symbol " + symbol, x.put(0, symbol), -2);
        due(3, "still empty", x.about(0, 0), 0);
        for (int i = 1; i <= 60; i++) due(3, "put", x.put(9, i % 2 - 1), i);
        due(3, "full", x.put(9, 0), -4);
        due(3, "BAD before FULL", x.put(9, 1), -2);
        due(3, "last symbol", x.at(9, 59), -1);
        due(3, "before the last", x.at(9, 58), 0);
        due(3, "length", x.about(9, 0), 60);
    }

    private static void empty() {
        LeafTrees x = world(2);
        for (int row : new int[] {-1, 10, MAX, MIN}) due(4, "row " + row, x.empty(row), -2);
        write(x, 0, "0..");
        write(x, 1, ".");
        due(4, "had", x.empty(0), 3);
        due(4, "has none", x.empty(0), 0);
        due(4, "another row stays", x.about(1, 0), 1);
        due(4, "no tree", x.about(0, 1), 0);
    }

    private static void at() {
        LeafTrees x = world(2, 3);
        write(x, 3, "1.0...");
        due(5, "at 0", x.at(3, 0), 1);
        due(5, "at 1", x.at(3, 1), -1);
        due(5, "at 2", x.at(3, 2), 0);
        due(5, "at 5", x.at(3, 5), -1);
        for (int i : new int[] {6, 59, 60, 61, -1, MAX, MIN}) due(5, "at " + i, x.at(3, i), -100);
        for (int row : new int[] {-1, 10, MAX, MIN}) due(5, "row " + row, x.at(row, 0), -2);
    }

    private static void about() {
        LeafTrees x = world(2, 3);
        write(x, 0, ".");
        int[] leaf = {1, 1, 1, 0, 0};
        for (int what = 0; what < 5; what++) due(6, "a leaf, " + what, x.about(0, what), leaf[what]);
        write(x, 0, "10..1...0.0..");
        int[] tree = {13, 1, 8, 5, 3};
        for (int what = 0; what < 5; what++) due(6, "a tree, " + what, x.about(0, what), tree[what]);
        for (String none : new String[] {"", "0", "0.", "0...", "..", "10..", ".0.."}) {
            write(x, 0, none);
            due(6, "symbols of " + none, x.about(0, 0), none.length());
            due(6, none, x.about(0, 1), 0);
            for (int what = 2; what < 5; what++) due(6, none, x.about(0, what), -3);
        }
        for (int what : new int[] {-1, 5, MAX, MIN}) due(6, "what " + what, x.about(0, what), -2);
        for (int row : new int[] {-1, 10, MAX, MIN}) due(6, "row " + row, x.about(row, 0), -2);
        write(x, 0, comb('0', 29));
        due(6, "the highest", x.about(0, 4), 29);
        write(x, 0, "00..0..");
        due(6, "side by side", x.about(0, 4), 2);
        write(x, 0, "00..00...");
        due(6, "higher at the right", x.about(0, 4), 3);
    }

    private static void graft() {
        LeafTrees x = world(2, 3);
        write(x, 0, "0.1...");
        write(x, 1, "0..");
        due(7, "at leaf 0", x.graft(0, 0, 1, 2), 8);
        dueRow(7, "at leaf 0", x, 2, "00..1...");
        due(7, "at leaf 3", x.graft(0, 3, 1, 2), 8);
        dueRow(7, "at leaf 3", x, 2, "0.1..0..");
        dueRow(7, "a stays", x, 0, "0.1...");
        due(7, "to b", x.graft(0, 1, 1, 1), 8);
        dueRow(7, "to b", x, 1, "0.10....");
        due(7, "to a, of itself", x.graft(0, 2, 0, 0), 11);
        dueRow(7, "to a, of itself", x, 0, "0.1.0.1....");
        write(x, 3, ".");
        due(7, "into a leaf", x.graft(3, 0, 1, 4), 8);
        due(7, "a leaf", x.graft(1, 2, 3, 4), 8);
        dueRow(7, "a leaf", x, 4, "0.10....");
        for (int i : new int[] {-1, 1, MAX, MIN}) due(7, "leaf " + i, x.graft(3, i, 1, 4), -2);
        for (int row : new int[] {-1, 10, MAX, MIN, 5}) {
            due(7, "a " + row, x.graft(row, 0, 1, 4), -2);
            due(7, "b " + row, x.graft(1, 0, row, 4), -2);
            if (row != 5) due(7, "to " + row, x.graft(1, 0, 1, row), -2);
        }
        dueRow(7, "refused", x, 4, "0.10....");
        write(x, 5, comb('0', 29));
        write(x, 6, "0..");
        due(7, "above 60", x.graft(5, 29, 6, 5), -4);
        due(7, "stays", x.about(5, 0), 59);
        due(7, "BAD before FULL", x.graft(5, 30, 6, 5), -2);
        write(x, 5, comb('0', 28));
        write(x, 6, "1...");
        due(7, "just 60", x.graft(5, 28, 6, 5), 60);
    }

    private static void same() {
        LeafTrees x = world(2, 2);
        write(x, 0, "00...");
        write(x, 1, "00...");
        write(x, 2, "0.0..");
        write(x, 3, "01...");
        write(x, 4, "0..");
        write(x, 5, "00..");
        due(8, "alike", x.same(0, 1), 1);
        due(8, "itself", x.same(0, 0), 1);
        due(8, "another shape", x.same(0, 2), 0);
        due(8, "another act", x.same(0, 3), 0);
        due(8, "shorter", x.same(0, 4), 0);
        for (int row : new int[] {-1, 10, MAX, MIN, 5, 6}) {
            due(8, "a " + row, x.same(row, 0), -2);
            due(8, "b " + row, x.same(0, row), -2);
        }
    }

    private static void rule() {
        LeafTrees x = world(2, 3);
        due(9, "size 0", addRule(x, ".", "."), -2);
        due(9, "size 5", addRule(x, comb('0', 5), comb('0', 5)), -2);
        due(9, "left no tree", addRule(x, "0.", "0.."), -2);
        due(9, "right no tree", addRule(x, "0..", ""), -2);
        due(9, "unlike many", addRule(x, "0..", "00..."), -3);
        due(9, "unlike many", addRule(x, "0..", "."), -3);
        due(9, "BAD before NO", addRule(x, comb('0', 5), "."), -2);
        write(x, 0, "0..");
        for (int row : new int[] {-1, 10, MAX, MIN, 5}) {
            due(9, "left " + row, x.rule(row, 0), -2);
            due(9, "right " + row, x.rule(0, row), -2);
        }
        due(9, "none so far", x.count(1), 0);
        due(9, "a right one of size 5", addRule(x, "1.1.1.....", comb('0', 6)), 0);
        due(9, "size 4", addRule(x, comb('0', 4), comb('0', 4)), 1);
        due(9, "of three entries", addRule(x, "1...", "00..."), 2);
        due(9, "the largest left one", addRule(x, "1111.........", comb('0', 8)), 3);
        for (int i = 4; i < 8; i++) due(9, "more", addRule(x, "0..", "0.."), i);
        due(9, "full", addRule(x, "0..", "0.."), -4);
        due(9, "NO before FULL", addRule(x, "0..", "."), -3);
        due(9, "BAD before FULL", addRule(x, ".", "."), -2);
        due(9, "eight", x.count(1), 8);
        x.unrule();
        addRule(x, "0..", "0..");
        write(x, 9, "1...");
        x.side(0, 0, 7);
        dueRow(9, "the rule keeps its own trees", x, 7, "0..");
    }

    private static void nought() {
        LeafTrees x = world(2);
        due(10, "size 0", addNought(x, "."), -2);
        due(10, "size 5", addNought(x, comb('0', 5)), -2);
        due(10, "no tree", addNought(x, "0"), -2);
        for (int row : new int[] {-1, 10, MAX, MIN, 5}) due(10, "row " + row, x.nought(row), -2);
        due(10, "size 1", addNought(x, "0.."), 0);
        due(10, "size 4", addNought(x, comb('0', 4)), 1);
        due(10, "to nothing", x.count(3), 2);
        for (int i = 2; i < 8; i++) due(10, "more", addNought(x, "0.."), i);
        due(10, "full", addNought(x, "0.."), -4);
        due(10, "BAD before FULL", addNought(x, "."), -2);
        due(10, "counts learn of rules", x.howMany(2), 0);
    }

    private static void unrule() {
        LeafTrees x = world(2);
        due(11, "none", x.unrule(), 0);
        addNought(x, "00...");
        addRule(x, "0..", "0..");
        due(11, "before", x.howMany(3), 0);
        due(11, "two", x.unrule(), 2);
        due(11, "gone", x.unrule(), 0);
        due(11, "no rules", x.count(1), 0);
        due(11, "to nothing", x.count(3), 0);
        due(11, "counts learn of it", x.howMany(3), 2);
        due(11, "numbers anew", addRule(x, "0..", "0.."), 0);
        due(11, "no rule to nothing left behind", x.count(3), 0);
    }

    private static void side() {
        LeafTrees x = world(2);
        addRule(x, "00...", "0.0..");
        addNought(x, "0..");
        due(12, "left", x.side(0, 0, 3), 5);
        dueRow(12, "left", x, 3, "00...");
        due(12, "right", x.side(0, 1, 3), 5);
        dueRow(12, "right", x, 3, "0.0..");
        for (int bad : new int[] {-1, 2, MAX, MIN}) {
            due(12, "rule " + bad, x.side(bad, 0, 3), -2);
            due(12, "which " + bad, x.side(0, bad, 3), -2);
        }
        for (int bad : new int[] {-1, 10, MAX, MIN}) due(12, "row " + bad, x.side(0, 0, bad), -2);
        dueRow(12, "refused", x, 3, "0.0..");
        due(12, "nothing", x.side(1, 1, 3), 0);
        dueRow(12, "nothing", x, 3, "");
        due(12, "left of nothing", x.side(1, 0, 3), 3);
    }

    private static void matches() {
        LeafTrees x = world(2, 3);
        addRule(x, "00...", "0.0..");
        addNought(x, "1.0...");
        write(x, 0, "00...");
        due(13, "at 0", x.matches(0, 0), 0);
        write(x, 0, "0.00...");
        due(13, "at 2", x.matches(0, 0), 2);
        write(x, 0, "1.0.00......");
        due(13, "no tree", x.matches(0, 0), -2);
        write(x, 0, "1.0.00....");
        due(13, "its leaves match any tree", x.matches(1, 0), 0);
        due(13, "deep", x.matches(0, 0), 4);
        write(x, 0, "10...0..");
        due(13, "at another entry", x.matches(1, 0), -1);
        write(x, 0, ".");
        due(13, "a leaf", x.matches(0, 0), -1);
        for (int bad : new int[] {-1, 2, 7, MAX, MIN}) due(13, "rule " + bad, x.matches(bad, 0), -2);
        for (int bad : new int[] {-1, 10, MAX, MIN, 5}) due(13, "row " + bad, x.matches(0, bad), -2);
    }

    private static void step() {
        LeafTrees x = world(2, 3);
        addRule(x, "0.0..", "00...");
        addRule(x, "1...", "0.0..");
        write(x, 0, "0.1...");
        due(14, "the right one", x.step(0), 1);
        dueRow(14, "the right one", x, 0, "0.0.0..");
        due(14, "the first place", x.step(0), 1);
        dueRow(14, "the first place, trees kept in order", x, 0, "00..0..");
        due(14, "again", x.step(0), 1);
        dueRow(14, "again", x, 0, "000....");
        due(14, "normal", x.step(0), 0);
        dueRow(14, "normal", x, 0, "000....");
        addNought(x, "000....");
        write(x, 0, "0.000....");
        due(14, "a place before a number", x.step(0), 1);
        dueRow(14, "a place before a number", x, 0, "00.00....");
        write(x, 0, "0000.....");
        due(14, "nothing", x.step(0), 2);
        dueRow(14, "nothing", x, 0, "");
        due(14, "an empty row", x.step(0), -2);
        for (int bad : new int[] {-1, 10, MAX, MIN}) due(14, "row " + bad, x.step(bad), -2);
        LeafTrees y = world(2, 3);
        addRule(y, "0..", "0..");
        addNought(y, "0..");
        write(y, 0, "0..");
        due(14, "the first rule", y.step(0), 1);
        y.unrule();
        addRule(y, "1...", "00...");
        write(y, 0, "1".repeat(19) + ".".repeat(39));
        due(14, "59 symbols", y.step(0), 1);
        due(14, "60 symbols", y.step(0), 1);
        due(14, "length", y.about(0, 0), 60);
        due(14, "61 symbols", y.step(0), -5);
        dueRow(14, "the row stays", y, 0, "0000" + "1".repeat(17) + ".".repeat(39));
    }

    private static void normal() {
        LeafTrees x = world(2, 3);
        write(x, 0, comb('0', 5));
        due(15, "without rules", x.normal(0), 0);
        addRule(x, "00...", "0.0..");
        due(15, "to the right", x.normal(0), 4);
        dueRow(15, "to the right", x, 0, chain("00000"));
        due(15, "it is normal", x.normal(0), 0);
        addNought(x, "0.0.0..");
        write(x, 0, comb('0', 3));
        due(15, "nothing", x.normal(0), -13);
        dueRow(15, "nothing", x, 0, "");
        due(15, "an empty row", x.normal(0), -2);
        for (int bad : new int[] {-1, 10, MAX, MIN}) due(15, "row " + bad, x.normal(bad), -2);
        x.unrule();
        addRule(x, "0..", "0..");
        write(x, 0, "00...");
        due(15, "for ever", x.normal(0), -5);
        dueRow(15, "for ever", x, 0, "00...");
        write(x, 0, ".");
        due(15, "a leaf", x.normal(0), 0);
        x.unrule();
        addRule(x, "1...", "00...");
        write(x, 0, "1".repeat(19) + ".".repeat(39));
        due(15, "above 60 symbols", x.normal(0), -5);
        dueRow(15, "above 60 symbols", x, 0, "1".repeat(19) + ".".repeat(39));
        write(x, 0, "0".repeat(2) + "1".repeat(14) + ".".repeat(31));
        due(15, "61 symbols are too many", x.normal(0), -5);
        write(x, 0, "1".repeat(15) + ".".repeat(31));
        due(15, "46 symbols become 61", x.normal(0), -5);
        write(x, 0, "1".repeat(14) + ".".repeat(29));
        due(15, "43 symbols become 57", x.normal(0), 14);
    }

    /** Each step swaps two neighbours of a chain, or is one of two that do: so the steps can be told beforehand. */
    private static void normalAtTheEdge() {
        LeafTrees x = world(2, 2);
        addRule(x, chain("10"), chain("01"));
        write(x, 0, chain("1".repeat(4) + "0" + "1".repeat(10) + "0".repeat(14)));
        due(15, "200 steps", x.normal(0), 200);
        dueRow(15, "200 steps", x, 0, chain("0".repeat(15) + "1".repeat(14)));
        String after = chain("1".repeat(5) + "0" + "1".repeat(9) + "0".repeat(14));
        write(x, 0, after);
        due(15, "201 steps", x.normal(0), -5);
        dueRow(15, "201 steps", x, 0, after);
        due(15, "one of 201", x.step(0), 1);
        due(15, "the rest", x.normal(0), 200);
        LeafTrees y = world(2, 2, 2, 2);
        addRule(y, chain("10"), chain("02"));
        addRule(y, chain("2"), chain("1"));
        addNought(y, chain("13"));
        write(y, 0, chain("2" + "1".repeat(8) + "0".repeat(11) + "3"));
        due(15, "nothing by step 200", y.normal(0), -210);
        write(y, 0, chain("22" + "1".repeat(7) + "0".repeat(11) + "3"));
        due(15, "nothing by step 201", y.normal(0), -5);
        due(15, "the row stays", y.about(0, 3), 21);
    }

    private static void howMany() {
        LeafTrees x = new LeafTrees();
        for (int bad : new int[] {0, -1, 7, MAX, MIN}) due(16, "n " + bad, x.howMany(bad), -2);
        for (int n = 1; n <= 6; n++) due(16, "no acts", x.howMany(n), n == 1 ? 1 : 0);
        x.act(2);
        long[] one = {1, 1, 2, 5, 14, 42};
        for (int n = 1; n <= 6; n++) due(16, "one act", x.howMany(n), one[n - 1]);
        for (int i = 0; i < 3; i++) x.act(2);
        for (int n = 1; n <= 6; n++) due(16, "four acts", x.howMany(n), one[n - 1] << 2 * (n - 1));
        LeafTrees y = world(3);
        long[] three = {1, 0, 1, 0, 3, 0};
        for (int n = 1; n <= 6; n++) due(16, "three entries", y.howMany(n), three[n - 1]);
        y.act(2);
        long[] mixed = {1, 1, 3, 10, 38, 154};
        for (int n = 1; n <= 6; n++) due(16, "two and three entries", y.howMany(n), mixed[n - 1]);
        addRule(y, "0...", "11...");
        for (int n = 1; n <= 6; n++) due(16, "an act is never normal", y.howMany(n), one[n - 1]);
        LeafTrees z = world(2);
        addRule(z, comb('0', 4), chain("0000"));
        long[] four = {1, 1, 2, 5, 13, 36};
        for (int n = 1; n <= 6; n++) due(16, "a left tree of size 4", z.howMany(n), four[n - 1]);
        LeafTrees t = world(3);
        addNought(t, "0..0...");
        due(16, "at the third entry", t.howMany(5), 2);
        addNought(z, "0..");
        due(16, "a leaf alone", z.howMany(1), 1);
        due(16, "no more", z.howMany(6), 0);
    }

    private static void overlaps() {
        LeafTrees x = world(2, 3);
        due(17, "none", x.overlaps(), 0);
        addRule(x, "0..", "0..");
        due(17, "a rule with itself at 0", x.overlaps(), 0);
        addNought(x, "0..");
        due(17, "alike, at 0 once", x.overlaps(), 1);
        addNought(x, "1...");
        due(17, "another act", x.overlaps(), 1);
        addNought(x, "1..0..");
        due(17, "below and at 0", x.overlaps(), 4);
        x.unrule();
        addNought(x, comb('0', 4));
        due(17, "with itself", x.overlaps(), 3);
        x.unrule();
        for (int i = 0; i < 8; i++) addNought(x, comb('0', 4));
        due(17, "the most", x.overlaps(), 8 * 8 * 3 + 28);
    }

    private static void overlap() {
        LeafTrees x = world(2, 3);
        write(x, 5, "0..");
        due(18, "none", x.overlap(0, 5), -1);
        dueRow(18, "none", x, 5, "0..");
        addNought(x, "00..1...");
        addNought(x, "0.1.0...");
        addNought(x, "00...");
        int[] codes = {1, 100, 101, 200, 201, 1004, 1104, 1200, 1204, 2001, 2101, 2201};
        String[] tops = {"000..1...1...", "00..1.0...", "00.1.0...1...", "00..1...", "000...1...", "0.1.00..1....",
            "0.1.0.1.0....", "00..1.0...", "0.1.00....", "000..1....", "00.1.0....", "000...."};
        due(18, "how many", x.overlaps(), codes.length);
        for (int i = 0; i < codes.length; i++) {
            due(18, "overlap " + i, x.overlap(i, 5), codes[i]);
            dueRow(18, "overlap " + i, x, 5, tops[i]);
        }
        due(18, "behind the last", x.overlap(codes.length, 5), -1);
        for (int bad : new int[] {-1, MIN}) due(18, "i " + bad, x.overlap(bad, 5), -2);
        for (int bad : new int[] {-1, 10, MAX, MIN}) due(18, "row " + bad, x.overlap(0, bad), -2);
        due(18, "BAD before NONE", x.overlap(MAX, 10), -2);
        due(18, "not so many", x.overlap(MAX, 5), -1);
        dueRow(18, "not so many", x, 5, "000....");
    }

    /** Four acts of three entries, each at the last entry of the one before: their places are the farthest back. */
    private static void overlapFarBack() {
        LeafTrees x = world(3);
        addNought(x, "0..0..0..0...");
        due(17, "far back", x.overlaps(), 3);
        due(18, "far back", x.overlap(2, 0), 9);
        dueRow(18, "far back", x, 0, "0..".repeat(7) + ".");
    }

    private static void closes() {
        LeafTrees x = world(2, 2);
        due(19, "no rules", x.closes(), -1);
        addRule(x, "00...", "0.0..");
        due(19, "one way to put brackets", x.closes(), -1);
        addRule(x, "0..", "1..");
        due(19, "it learns of rules", x.closes(), 1);
        x.unrule();
        due(19, "it learns that they went", x.closes(), -1);
        addNought(x, "01...");
        addNought(x, "1.0..");
        due(19, "both nothing", x.closes(), -1);
        x.unrule();
        addNought(x, "00...");
        addRule(x, "0..", "1..");
        due(19, "nothing and a tree", x.closes(), 1);
        x.unrule();
        addRule(x, "00...", "0.0..");
        addRule(x, "1..", "1..");
        due(19, "no overlap is spent", x.closes(), -1);
        addRule(x, "01...", "0.1..");
        due(19, "one is", x.closes(), -5);
        x.unrule();
        addRule(x, "0..", "1..");
        addNought(x, "0..");
        addRule(x, "1..", "1..");
        due(19, "spent with nothing at the other side", x.closes(), -5);
        x.unrule();
        addRule(x, "00...", "0.0..");
        addNought(x, "00...");
        addRule(x, "1..", "1..");
        addRule(x, "1..", "0..");
        due(19, "an open one before a spent one", x.closes(), 1);
        x.unrule();
        addRule(x, "1..", "1..");
        addRule(x, "1..", "0..");
        addRule(x, "00...", "0.0..");
        addNought(x, "00...");
        due(19, "a spent one before an open one", x.closes(), -5);
    }

    private static void turned() {
        LeafTrees x = new LeafTrees();
        for (int bad : new int[] {0, -1, 7, MAX, MIN}) due(20, "n " + bad, x.turned(bad), -2);
        for (int n = 1; n <= 6; n++) due(20, "no acts", x.turned(n), n == 1 ? 1 : 0);
        x.act(2);
        for (int n = 1; n <= 6; n++) due(20, "all brackets", x.turned(n), n == 1 ? 1 : n == 2 ? -1 : 0);
        addNought(x, "0..");
        addNought(x, "00...");
        for (int n = 2; n <= 6; n++) due(20, "it learns of rules", x.turned(n), 0);
        x.unrule();
        addRule(x, "00...", "0.0..");
        for (int n = 1; n <= 6; n++) due(20, "one way to put brackets", x.turned(n), n % 2 == 1 ? 1 : -1);
        LeafTrees y = world(2);
        addNought(y, "00...");
        addNought(y, "0.0..");
        long[] inverse = {1, -1, 2, -5, 14, -42};
        for (int n = 1; n <= 6; n++) due(20, "no brackets in brackets", y.turned(n), inverse[n - 1]);
        LeafTrees z = world(3);
        due(20, "three entries", z.turned(3), -1);
        due(20, "three entries", z.turned(5), 0);
        LeafTrees four = world(2, 2, 2, 2);
        due(20, "four acts", four.turned(2), -4);
        due(20, "four acts", four.turned(6), 0);
    }

    private static void dual() {
        LeafTrees x = new LeafTrees();
        for (int bad : new int[] {0, -1, 7, MAX, MIN}) due(21, "n " + bad, x.dual(bad), -2);
        for (int n = 1; n <= 6; n++) due(21, "no acts", x.dual(n), n == 1 ? 1 : 0);
        x.act(2);
        for (int n = 1; n <= 6; n++) due(21, "no rules", x.dual(n), n < 3 ? 1 : 0);
        addNought(x, "00...");
        addNought(x, "00...");
        for (int n = 1; n <= 6; n++) due(21, "one of both, told twice", x.dual(n), 1);
        addNought(x, "0.0..");
        long[] all = {1, 1, 2, 5, 14, 42};
        for (int n = 1; n <= 6; n++) due(21, "both", x.dual(n), all[n - 1]);
        x.act(2);
        long[] two = {1, 2, 2, 5, 14, 42};
        for (int n = 1; n <= 6; n++) due(21, "another act", x.dual(n), two[n - 1]);
        addRule(x, "0..", "0..");
        due(21, "a rule to a tree", x.dual(3), -3);
        due(21, "BAD before NO", x.dual(7), -2);
        x.unrule();
        addRule(x, "00...", "0.0..");
        due(21, "of size 2, to a tree", x.dual(1), -3);
        x.unrule();
        addNought(x, "0..");
        due(21, "a rule of size 1", x.dual(1), -3);
        x.unrule();
        addNought(x, "000....");
        due(21, "a rule of size 3", x.dual(1), -3);
        x.unrule();
        due(21, "without rules again", x.dual(3), 0);
        x.act(3);
        due(21, "an act of three entries", x.dual(1), -3);
        LeafTrees y = world(2, 2, 2, 2);
        for (int n = 1; n <= 6; n++) due(21, "four acts, no rules", y.dual(n), n == 1 ? 1 : n == 2 ? 4 : 0);
        addNought(y, "03...");
        addNought(y, "3.0..");
        addNought(y, "30...");
        addNought(y, "2.1..");
        long[] some = {1, 4, 4, 5, 9, 17};
        for (int n = 1; n <= 6; n++) due(21, "four acts", y.dual(n), some[n - 1]);
    }

    private static void count() {
        LeafTrees x = world(2, 3, 2);
        write(x, 0, ".");
        write(x, 1, "0..");
        write(x, 2, "0.");
        write(x, 9, "0.");
        due(22, "acts", x.count(0), 3);
        due(22, "rules", x.count(1), 0);
        due(22, "trees", x.count(2), 2);
        x.nought(1);
        x.rule(1, 1);
        x.nought(1);
        due(22, "rules", x.count(1), 3);
        due(22, "to nothing", x.count(3), 2);
        for (int bad : new int[] {-1, 4, MAX, MIN}) due(22, "what " + bad, x.count(bad), -2);
    }

    private static void digest() {
        LeafTrees x = world(2, 3);
        write(x, 0, "0..");
        write(x, 4, "1.");
        x.rule(0, 0);
        x.nought(0);
        int[] values = {2, 2, 1, 1, 2, 3, 0, -1, -1, 9, 9, 9, 9, 1, -1, 9, 9, 9, 9, 9, 9,
            0, -1, -1, 9, 0, -1, -1, 9, 0, -1, -1, 9, 9};
        long h = 227;
        for (int v : values) h = 31 * h + v;
        due(23, "of all", x.digest(), h);
        due(23, "again", x.digest(), h);
        x.act(4);
        x.put(0, 2);
        x.graft(0, 5, 0, 0);
        x.rule(4, 0);
        x.side(0, 2, 0);
        x.step(4);
        x.normal(4);
        x.overlap(-1, 0);
        x.howMany(6);
        x.closes();
        x.dual(3);
        x.turned(6);
        x.matches(0, 0);
        due(23, "refusals and questions change nothing", x.digest(), h);
    }
}
