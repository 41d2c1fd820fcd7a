/** The boundary cases of promises 1 to 8: acts, rows, trees, and trees put in leaves. */
public final class RowBoundariesTest extends Checks {
    public static void main(String[] args) {
        newHasNoActs();
        newHasNoRules();
        newHasEmptyRows();
        newIsFreeOfOthers();
        actHasTwoOrThreeEntries();
        actsAreFour();
        actsKeepTheirEntries();
        putTakesRowsZeroToNine();
        putTakesNoneAndActs();
        putTakesSixtySymbols();
        emptyTakesRowsZeroToNine();
        emptyTellsHowManyThereWere();
        atTakesRowsZeroToNine();
        atTellsNotSoMany();
        aboutTakesZeroToFour();
        aboutOfRowsThatAreNoTrees();
        aboutOfALeafAlone();
        aboutOfFullRows();
        graftTakesRowsZeroToNine();
        graftTakesLeavesFromFirstToLast();
        graftNeedsTwoTrees();
        graftMakesSixtySymbolsAtMost();
        graftComesToOneOfBoth();
        sameTakesRowsZeroToNine();
        sameNeedsTwoTrees();
        sameSeesTheLastSymbol();
        finish();
    }

    // ---- promise 1: "No ACTS, no RULES, empty ROWS."

    private static void newHasNoActs() {
        LeafTrees x = new LeafTrees();
        due(1, "no acts", x.count(0), 0);
        refused(1, "there is no act 0 to put", x, -2, () -> x.put(0, 0));
        due(1, "a leaf needs no act", x.put(0, -1), 1);
        due(1, "the first act is 0", x.act(3), 0);
    }

    private static void newHasNoRules() {
        LeafTrees x = new LeafTrees();
        x.put(0, -1);
        due(1, "no rules", x.count(1), 0);
        due(1, "none to nothing", x.count(3), 0);
        refused(1, "there is no rule 0 to show", x, -2, () -> x.side(0, 0, 0));
        refused(1, "there is no rule 0 to match", x, -2, () -> x.matches(0, 0));
        due(1, "none go", x.unrule(), 0);
        due(1, "no overlaps", x.overlaps(), 0);
        due(1, "all close", x.closes(), -1);
    }

    private static void newHasEmptyRows() {
        LeafTrees x = new LeafTrees();
        for (int row = 0; row < 10; row++) {
            due(1, "no symbols", x.about(row, 0), 0);
            due(1, "no first symbol", x.at(row, 0), -100);
            due(1, "no tree", x.about(row, 1), 0);
            due(1, "nothing to empty", x.empty(row), 0);
        }
        due(1, "no trees", x.count(2), 0);
    }

    private static void newIsFreeOfOthers() {
        LeafTrees x = new LeafTrees();
        LeafTrees other = world(2);
        write(other, 0, "0..");
        other.nought(0);
        for (int what = 0; what < 4; what++) due(1, "another object's count " + what, x.count(what), 0);
        due(1, "another object's row", x.about(0, 0), 0);
        due(1, "the other one keeps its own", other.count(3), 1);
    }

    // ---- promise 2: "An ACT: its number. BAD; FULL: 4."

    private static void actHasTwoOrThreeEntries() {
        LeafTrees x = new LeafTrees();
        for (int bad : new int[] {1, 4, 0, -1, -2, -3, MIN, MAX, MIN + 2, MIN + 3}) {
            refused(2, "entries " + bad, x, -2, () -> x.act(bad));
        }
        due(2, "two, the least", x.act(2), 0);
        due(2, "three, the most", x.act(3), 1);
    }

    private static void actsAreFour() {
        for (int entries = 2; entries <= 3; entries++) {
            LeafTrees x = new LeafTrees();
            for (int i = 0; i < 4; i++) due(2, "as they come", x.act(entries), i);
            refused(2, "a fifth of two", x, -4, () -> x.act(2));
            refused(2, "a fifth of three", x, -4, () -> x.act(3));
            for (int bad : new int[] {1, 4, MIN, MAX}) {
                refused(2, "BAD before FULL", x, -2, () -> x.act(bad));
            }
            due(2, "four", x.count(0), 4);
            due(2, "act 3 is there", x.put(0, 3), 1);
            refused(2, "act 4 is not", x, -2, () -> x.put(0, 4));
        }
    }

    private static void actsKeepTheirEntries() {
        LeafTrees x = world(3, 2, 2, 3);
        x.act(2);
        String[] trees = {"0...", "1..", "2..", "3..."};
        for (int i = 0; i < 4; i++) {
            write(x, i, trees[i]);
            due(2, "as many trees as entries, act " + i, x.about(i, 1), 1);
            due(2, "leaves of act " + i, x.about(i, 2), trees[i].length() - 1);
            x.put(i, -1);
            due(2, "one tree more, act " + i, x.about(i, 1), 0);
        }
    }

    // ---- promise 3: "A symbol behind a ROW: how many. BAD: NONE or an ACT; FULL: 60."

    private static void putTakesRowsZeroToNine() {
        LeafTrees x = world(2);
        for (int row : NO_ROWS) refused(3, "row " + row, x, -2, () -> x.put(row, -1));
        for (int row = 0; row < 10; row++) due(3, "row " + row, x.put(row, -1), 1);
        for (int row = 0; row < 10; row++) due(3, "one symbol each", x.about(row, 0), 1);
        refused(3, "neither a row nor a symbol", x, -2, () -> x.put(10, 1));
    }

    private static void putTakesNoneAndActs() {
        LeafTrees x = new LeafTrees();
        for (int acts = 0; acts <= 4; acts++) {
            int row = acts;
            for (int bad : new int[] {-2, acts, acts + 1, MIN, MAX}) {
                refused(3, "symbol " + bad + " of " + acts + " acts", x, -2, () -> x.put(row, bad));
            }
            due(3, "NONE", x.put(acts, -1), 1);
            if (acts > 0) due(3, "the last act", x.put(acts, acts - 1), 2);
            x.act(2 + acts % 2);
        }
        due(3, "all rows of them", x.about(4, 0), 2);
    }

    private static void putTakesSixtySymbols() {
        LeafTrees x = world(2, 3);
        for (int i = 1; i <= 60; i++) due(3, "symbol " + i, x.put(0, i % 3 - 1), i);
        for (int symbol = -1; symbol < 2; symbol++) {
            int more = symbol;
            refused(3, "symbol 61", x, -4, () -> x.put(0, more));
        }
        for (int bad : new int[] {-2, 2, MIN, MAX}) refused(3, "BAD before FULL", x, -2, () -> x.put(0, bad));
        for (int i = 1; i <= 60; i++) due(3, "kept " + i, x.at(0, i - 1), i % 3 - 1);
        due(3, "another row is not full", x.put(1, 0), 1);
        x.empty(0);
        due(3, "no more full", x.put(0, 1), 1);
    }

    // ---- promise 4: "A ROW is empty: how many symbols it had. BAD."

    private static void emptyTakesRowsZeroToNine() {
        LeafTrees x = world(2);
        for (int row = 0; row < 10; row++) x.put(row, 0);
        for (int row : NO_ROWS) refused(4, "row " + row, x, -2, () -> x.empty(row));
        for (int row = 0; row < 10; row++) {
            due(4, "row " + row, x.empty(row), 1);
            if (row < 9) due(4, "the next row stays", x.about(row + 1, 0), 1);
        }
    }

    private static void emptyTellsHowManyThereWere() {
        LeafTrees x = world(2, 3);
        due(4, "an empty row", x.empty(3), 0);
        write(x, 3, fullTree());
        due(4, "a full row", x.empty(3), 60);
        due(4, "then none", x.about(3, 0), 0);
        due(4, "no first symbol", x.at(3, 0), -100);
        due(4, "no tree", x.about(3, 1), 0);
        asks(4, "it stays empty", x, 0, () -> x.empty(3));
        x.put(3, 1);
        due(4, "only the new one", x.empty(3), 1);
    }

    // ---- promise 5: "Symbol i. -100: not so many. BAD: the ROW."

    private static void atTakesRowsZeroToNine() {
        LeafTrees x = world(2);
        for (int row = 0; row < 10; row++) x.put(row, row % 2 - 1);
        for (int row : NO_ROWS) {
            refused(5, "row " + row, x, -2, () -> x.at(row, 0));
            refused(5, "row " + row + ", and not so many", x, -2, () -> x.at(row, 60));
        }
        for (int row = 0; row < 10; row++) due(5, "row " + row, x.at(row, 0), row % 2 - 1);
    }

    private static void atTellsNotSoMany() {
        LeafTrees x = world(2, 3);
        for (int i : new int[] {0, 1, -1, 60, MIN, MAX}) {
            asks(5, "an empty row, " + i, x, -100, () -> x.at(0, i));
        }
        write(x, 0, fullTree());
        due(5, "the first", x.at(0, 0), 0);
        due(5, "the last but three", x.at(0, 56), 1);
        due(5, "the last", x.at(0, 59), -1);
        for (int i : new int[] {60, 61, -1, -2, MIN, MAX}) {
            asks(5, "a full row, " + i, x, -100, () -> x.at(0, i));
        }
        write(x, 0, "01");
        due(5, "the last of two", x.at(0, 1), 1);
        due(5, "behind it, where there was one", x.at(0, 2), -100);
    }

    // ---- promise 6: "2 .. 4 NO: no TREE. BAD."

    private static void aboutTakesZeroToFour() {
        LeafTrees x = world(2);
        write(x, 0, "0..");
        write(x, 9, "00...");
        int[] first = {3, 1, 2, 1, 1};
        int[] last = {5, 1, 3, 2, 2};
        for (int what = 0; what < 5; what++) {
            due(6, "row 0, " + what, x.about(0, what), first[what]);
            due(6, "row 9, " + what, x.about(9, what), last[what]);
        }
        for (int bad : new int[] {-1, 5, MIN, MAX}) {
            refused(6, "what " + bad, x, -2, () -> x.about(0, bad));
            refused(6, "BAD before NO, what " + bad, x, -2, () -> x.about(1, bad));
        }
        for (int row : NO_ROWS) {
            for (int what = 0; what < 5; what++) due(6, "row " + row + ", " + what, x.about(row, what), -2);
        }
    }

    private static void aboutOfRowsThatAreNoTrees() {
        String[] none = {"", "0", "0.", "0...", "..", "1..", "1....", "0.0.", ".0..", "01...", "10..0..0...",
            "0".repeat(60), "1".repeat(60), ".".repeat(60), "0.".repeat(30), fullTree().substring(1) + "."};
        for (String symbols : none) {
            LeafTrees x = world(2, 3);
            write(x, 0, symbols);
            due(6, "symbols of '" + symbols + "'", x.about(0, 0), symbols.length());
            due(6, "no tree: '" + symbols + "'", x.about(0, 1), 0);
            due(6, "not counted: '" + symbols + "'", x.count(2), 0);
            for (int what = 2; what < 5; what++) {
                int asked = what;
                refused(6, "NO, '" + symbols + "', " + what, x, -3, () -> x.about(0, asked));
            }
        }
    }

    private static void aboutOfALeafAlone() {
        LeafTrees x = new LeafTrees();
        x.put(0, -1);
        int[] leaf = {1, 1, 1, 0, 0};
        for (int what = 0; what < 5; what++) due(6, "a leaf without acts, " + what, x.about(0, what), leaf[what]);
        x.put(0, -1);
        due(6, "two leaves are no tree", x.about(0, 1), 0);
    }

    private static void aboutOfFullRows() {
        LeafTrees x = world(2, 3);
        write(x, 0, fullTree());
        write(x, 1, comb('0', 29));
        write(x, 2, chainOfThree('1', 19));
        write(x, 3, "1" + comb('0', 14) + comb('0', 13) + ".");
        int[][] want = {{60, 1, 31, 29, 29}, {59, 1, 30, 29, 29}, {58, 1, 39, 19, 19}, {58, 1, 30, 28, 15}};
        for (int row = 0; row < want.length; row++) {
            for (int what = 0; what < 5; what++) {
                due(6, "row " + row + ", " + what, x.about(row, what), want[row][what]);
            }
        }
        write(x, 4, "00..0..");
        due(6, "acts side by side are not one below the other", x.about(4, 4), 2);
        write(x, 5, "10..0..0..");
        due(6, "three side by side", x.about(5, 4), 2);
        x.put(1, -1);
        due(6, "a leaf too many, full", x.about(1, 0), 60);
        due(6, "a leaf too many, full", x.about(1, 1), 0);
    }

    // ---- promise 7: "BAD; FULL: above 60."

    private static void graftTakesRowsZeroToNine() {
        LeafTrees x = world(2);
        write(x, 0, "0..");
        write(x, 9, ".");
        for (int row : NO_ROWS) {
            refused(7, "a " + row, x, -2, () -> x.graft(row, 0, 0, 0));
            refused(7, "b " + row, x, -2, () -> x.graft(0, 0, row, 0));
            refused(7, "to " + row, x, -2, () -> x.graft(0, 0, 0, row));
        }
        due(7, "the first row into the last", x.graft(9, 0, 0, 9), 3);
        due(7, "the last row into the first", x.graft(0, 0, 9, 0), 5);
        dueRow(7, "the first row", x, 0, "00...");
    }

    private static void graftTakesLeavesFromFirstToLast() {
        LeafTrees x = world(2, 3);
        write(x, 0, "1.0...");
        write(x, 1, "0..");
        for (int bad : new int[] {-1, 4, 5, 6, MIN, MAX}) {
            refused(7, "leaf " + bad + " of 4", x, -2, () -> x.graft(0, bad, 1, 2));
        }
        String[] made = {"10..0...", "1.00....", "1.0.0...", "1.0..0.."};
        for (int i = 0; i < 4; i++) {
            due(7, "leaf " + i, x.graft(0, i, 1, 2), 8);
            dueRow(7, "leaf " + i, x, 2, made[i]);
        }
        write(x, 3, ".");
        due(7, "the one leaf of a leaf", x.graft(3, 0, 1, 2), 3);
        dueRow(7, "the one leaf of a leaf", x, 2, "0..");
        for (int bad : new int[] {-1, 1}) refused(7, "another leaf", x, -2, () -> x.graft(3, bad, 1, 2));
    }

    private static void graftNeedsTwoTrees() {
        for (String none : new String[] {"", "0", "0.", "0...", "0".repeat(60)}) {
            LeafTrees x = world(2);
            write(x, 0, "0..");
            write(x, 5, none);
            refused(7, "a '" + none + "'", x, -2, () -> x.graft(5, 0, 0, 1));
            refused(7, "b '" + none + "'", x, -2, () -> x.graft(0, 0, 5, 1));
            refused(7, "both '" + none + "'", x, -2, () -> x.graft(5, 0, 5, 5));
            due(7, "it comes to '" + none + "'", x.graft(0, 0, 0, 5), 5);
            dueRow(7, "it comes to '" + none + "'", x, 5, "00...");
        }
    }

    private static void graftMakesSixtySymbolsAtMost() {
        LeafTrees x = world(2, 3);
        write(x, 0, comb('0', 28));
        write(x, 1, "1...");
        write(x, 2, "00...");
        write(x, 3, ".");
        due(7, "57 and 4: 60", x.graft(0, 28, 1, 4), 60);
        dueRow(7, "57 and 4: 60", x, 4, "0".repeat(28) + ".".repeat(28) + "1...");
        refused(7, "57 and 5: 61", x, -4, () -> x.graft(0, 28, 2, 4));
        refused(7, "60 and 60", x, -4, () -> x.graft(4, 0, 4, 4));
        refused(7, "60 and 4", x, -4, () -> x.graft(4, 30, 1, 1));
        refused(7, "4 and 60", x, -4, () -> x.graft(1, 0, 4, 1));
        due(7, "60 into a leaf", x.graft(3, 0, 4, 5), 60);
        due(7, "a leaf into 60", x.graft(4, 30, 3, 5), 60);
        due(7, "both alike", x.same(4, 5), 1);
        for (int leaf : new int[] {-1, 31, MIN, MAX}) {
            refused(7, "BAD before FULL, leaf " + leaf, x, -2, () -> x.graft(4, leaf, 4, 4));
        }
        for (int to : NO_ROWS) refused(7, "BAD before FULL, to " + to, x, -2, () -> x.graft(4, 0, 4, to));
    }

    private static void graftComesToOneOfBoth() {
        LeafTrees x = world(2, 3);
        write(x, 0, "0..");
        write(x, 1, "1...");
        due(7, "to a", x.graft(0, 1, 1, 0), 6);
        dueRow(7, "to a", x, 0, "0.1...");
        dueRow(7, "b stays", x, 1, "1...");
        due(7, "to b", x.graft(0, 0, 1, 1), 9);
        dueRow(7, "to b", x, 1, "01...1...");
        dueRow(7, "a stays", x, 0, "0.1...");
        due(7, "a, b and the row are one", x.graft(0, 0, 0, 0), 11);
        dueRow(7, "a, b and the row are one", x, 0, "00.1...1...");
        write(x, 2, fullTree());
        write(x, 3, "0..");
        due(7, "to a full row", x.graft(3, 0, 3, 2), 5);
        dueRow(7, "to a full row", x, 2, "00...");
    }

    // ---- promise 8: "Whether two ROWS are the same TREE: 1, 0. BAD."

    private static void sameTakesRowsZeroToNine() {
        LeafTrees x = world(2);
        write(x, 0, "0..");
        write(x, 9, "0..");
        asks(8, "the first and the last", x, 1, () -> x.same(0, 9));
        asks(8, "the last and the first", x, 1, () -> x.same(9, 0));
        for (int row : NO_ROWS) {
            refused(8, "a " + row, x, -2, () -> x.same(row, 0));
            refused(8, "b " + row, x, -2, () -> x.same(0, row));
            refused(8, "both " + row, x, -2, () -> x.same(row, row));
        }
    }

    private static void sameNeedsTwoTrees() {
        for (String none : new String[] {"", "0", "0.", "0...", ".".repeat(60)}) {
            LeafTrees x = world(2);
            write(x, 0, "0..");
            write(x, 1, none);
            write(x, 2, none);
            refused(8, "a '" + none + "'", x, -2, () -> x.same(1, 0));
            refused(8, "b '" + none + "'", x, -2, () -> x.same(0, 1));
            refused(8, "alike, but no trees: '" + none + "'", x, -2, () -> x.same(1, 2));
            refused(8, "itself, but no tree: '" + none + "'", x, -2, () -> x.same(1, 1));
        }
    }

    private static void sameSeesTheLastSymbol() {
        LeafTrees x = world(2, 3, 3);
        write(x, 0, fullTree());
        write(x, 1, fullTree());
        write(x, 2, "0.".repeat(28) + "2...");
        write(x, 3, "0.".repeat(27) + "01....");
        due(8, "full rows alike", x.same(0, 1), 1);
        due(8, "the last act is another", x.same(0, 2), 0);
        due(8, "the last act is elsewhere", x.same(0, 3), 0);
        write(x, 4, ".");
        write(x, 5, ".");
        due(8, "leaves", x.same(4, 5), 1);
        due(8, "a leaf and a full row", x.same(4, 0), 0);
        due(8, "a full row and a leaf", x.same(0, 4), 0);
    }
}
