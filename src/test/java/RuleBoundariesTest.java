/** The boundary cases of promises 9 to 15: rules, where they match, steps and normal forms. */
public final class RuleBoundariesTest extends Checks {
    private static final String[] NO_TREES = {"", "0", "0.", "0...", ".".repeat(60)};

    public static void main(String[] args) {
        ruleTakesRowsZeroToNine();
        ruleNeedsTwoTrees();
        ruleHasOneToFourActsAtTheLeft();
        ruleHasAnyNumberOfActsAtTheRight();
        ruleHasAsManyLeavesAtBothSides();
        rulesAreEight();
        ruleIsRefusedByTheFirstReason();
        ruleKeepsItsTrees();
        noughtTakesRowsZeroToNine();
        noughtNeedsATreeOfOneToFourActs();
        noughtsAreEightWithTheRules();
        unruleTellsHowManyWent();
        unruleLeavesActsAndRows();
        sideTakesRulesThatAreThere();
        sideTakesLeftAndRight();
        sideTakesRowsZeroToNine();
        sideOfNothingIsAnEmptyRow();
        sideComesToAFullRow();
        matchesTakesRulesThatAreThere();
        matchesNeedsATree();
        matchesFromTheFirstPlaceToTheLast();
        matchesNeedsEachAct();
        matchesAnyTreeAtALeaf();
        stepNeedsATree();
        stepOfNormalTrees();
        stepUsesTheFirstPlaceThenTheFirstRule();
        stepToNothingEmptiesTheRow();
        stepMakesSixtySymbolsAtMost();
        stepOfAFullRow();
        normalNeedsATree();
        normalOfNormalTrees();
        normalTakesTwoHundredSteps();
        normalToNothingTakesTwoHundredSteps();
        normalMakesSixtySymbolsAtMost();
        normalToNothingEmptiesTheRow();
        finish();
    }

    private static LeafTrees withRows(String... rows) {
        LeafTrees x = world(2, 3);
        for (int i = 0; i < rows.length; i++) write(x, i, rows[i]);
        return x;
    }

    // ---- promise 9: "BAD: also the SIZE of the left one; NO: unlike many LEAVES; FULL: 8."

    private static void ruleTakesRowsZeroToNine() {
        LeafTrees x = withRows("0..");
        write(x, 9, "0..");
        for (int row : NO_ROWS) {
            refused(9, "left " + row, x, -2, () -> x.rule(row, 0));
            refused(9, "right " + row, x, -2, () -> x.rule(0, row));
            refused(9, "both " + row, x, -2, () -> x.rule(row, row));
        }
        due(9, "the first and the last row", x.rule(0, 9), 0);
        due(9, "the last and the first row", x.rule(9, 0), 1);
        due(9, "a row with itself", x.rule(9, 9), 2);
    }

    private static void ruleNeedsTwoTrees() {
        for (String none : NO_TREES) {
            LeafTrees x = withRows("0..", none);
            refused(9, "left '" + none + "'", x, -2, () -> x.rule(1, 0));
            refused(9, "right '" + none + "'", x, -2, () -> x.rule(0, 1));
            refused(9, "both '" + none + "'", x, -2, () -> x.rule(1, 1));
        }
    }

    private static void ruleHasOneToFourActsAtTheLeft() {
        LeafTrees x = withRows(".", "0..", comb('0', 4), comb('0', 5), "1...", chainOfThree('1', 4),
            chainOfThree('1', 5), fullTree());
        refused(9, "no act", x, -2, () -> x.rule(0, 0));
        refused(9, "five acts of two entries", x, -2, () -> x.rule(3, 3));
        refused(9, "five acts of three entries", x, -2, () -> x.rule(6, 6));
        refused(9, "29 acts", x, -2, () -> x.rule(7, 7));
        due(9, "one act of two entries", x.rule(1, 1), 0);
        due(9, "four acts of two entries", x.rule(2, 2), 1);
        due(9, "one act of three entries", x.rule(4, 4), 2);
        due(9, "four acts of three entries", x.rule(5, 5), 3);
        due(9, "four rules", x.count(1), 4);
    }

    private static void ruleHasAnyNumberOfActsAtTheRight() {
        LeafTrees x = withRows(chainOfThree('1', 4), comb('0', 8), comb('0', 4), "11.....");
        due(9, "eight acts", x.rule(0, 1), 0);
        due(9, "fewer than at the left", x.rule(2, 3), 1);
        due(9, "17 symbols", x.side(0, 1, 9), 17);
        dueRow(9, "17 symbols", x, 9, comb('0', 8));
        refused(9, "but not at the left", x, -2, () -> x.rule(1, 0));
    }

    private static void ruleHasAsManyLeavesAtBothSides() {
        LeafTrees x = withRows("00...", "0..", "1...", comb('0', 3), ".", fullTree());
        refused(9, "one leaf less", x, -3, () -> x.rule(0, 1));
        refused(9, "one leaf more", x, -3, () -> x.rule(0, 3));
        refused(9, "a leaf alone", x, -3, () -> x.rule(1, 4));
        refused(9, "31 leaves", x, -3, () -> x.rule(0, 5));
        due(9, "as many, by another act", x.rule(0, 2), 0);
        due(9, "as many, by two acts", x.rule(2, 0), 1);
    }

    private static void rulesAreEight() {
        LeafTrees x = withRows("0..");
        for (int i = 0; i < 8; i++) due(9, "as they come", x.rule(0, 0), i);
        refused(9, "a ninth", x, -4, () -> x.rule(0, 0));
        due(9, "eight", x.count(1), 8);
        due(9, "rule 7 is there", x.side(7, 0, 1), 3);
        x.unrule();
        due(9, "no more full", x.rule(0, 0), 0);
    }

    private static void ruleIsRefusedByTheFirstReason() {
        LeafTrees x = withRows("0..", "00...", ".", comb('0', 5), "0.", "");
        refused(9, "no act and unlike many leaves: BAD", x, -2, () -> x.rule(2, 0));
        refused(9, "five acts and unlike many leaves: BAD", x, -2, () -> x.rule(3, 0));
        for (int i = 0; i < 8; i++) x.rule(0, 0);
        refused(9, "unlike many leaves and full: NO", x, -3, () -> x.rule(0, 1));
        refused(9, "no act and full: BAD", x, -2, () -> x.rule(2, 2));
        refused(9, "five acts and full: BAD", x, -2, () -> x.rule(3, 3));
        refused(9, "five acts, unlike many leaves and full: BAD", x, -2, () -> x.rule(3, 0));
        refused(9, "right no tree and full: BAD", x, -2, () -> x.rule(0, 4));
        refused(9, "left empty and full: BAD", x, -2, () -> x.rule(5, 0));
        for (int row : NO_ROWS) refused(9, "no row and full: BAD", x, -2, () -> x.rule(0, row));
    }

    private static void ruleKeepsItsTrees() {
        LeafTrees x = withRows("00...", "0.0..");
        x.rule(0, 1);
        x.nought(0);
        x.empty(0);
        write(x, 1, fullTree());
        x.side(0, 0, 2);
        dueRow(9, "left", x, 2, "00...");
        x.side(0, 1, 2);
        dueRow(9, "right", x, 2, "0.0..");
        x.side(1, 0, 2);
        dueRow(10, "left of nothing", x, 2, "00...");
    }

    // ---- promise 10: "A RULE by which a TREE becomes NOTHING: its number. BAD; FULL."

    private static void noughtTakesRowsZeroToNine() {
        LeafTrees x = withRows("0..");
        write(x, 9, "1...");
        for (int row : NO_ROWS) refused(10, "row " + row, x, -2, () -> x.nought(row));
        due(10, "the first row", x.nought(0), 0);
        due(10, "the last row", x.nought(9), 1);
    }

    private static void noughtNeedsATreeOfOneToFourActs() {
        for (String none : NO_TREES) {
            LeafTrees x = withRows(none);
            refused(10, "'" + none + "'", x, -2, () -> x.nought(0));
        }
        LeafTrees x = withRows(".", "0..", comb('0', 4), comb('0', 5), "1...", chainOfThree('1', 4),
            chainOfThree('1', 5), fullTree());
        for (int bad : new int[] {0, 3, 6, 7}) refused(10, "row " + bad, x, -2, () -> x.nought(bad));
        int number = 0;
        for (int good : new int[] {1, 2, 4, 5}) due(10, "row " + good, x.nought(good), number++);
        due(10, "all to nothing", x.count(3), 4);
    }

    private static void noughtsAreEightWithTheRules() {
        for (int noughts = 0; noughts <= 8; noughts += 4) {
            LeafTrees x = withRows("0..", ".", comb('0', 5), "0.");
            for (int i = 0; i < 8; i++) due(10, "as they come", i < noughts ? x.nought(0) : x.rule(0, 0), i);
            due(10, "to nothing", x.count(3), noughts);
            refused(10, "a ninth", x, -4, () -> x.nought(0));
            refused(9, "a ninth", x, -4, () -> x.rule(0, 0));
            refused(10, "no act and full: BAD", x, -2, () -> x.nought(1));
            refused(10, "five acts and full: BAD", x, -2, () -> x.nought(2));
            refused(10, "no tree and full: BAD", x, -2, () -> x.nought(3));
            for (int row : NO_ROWS) refused(10, "no row and full: BAD", x, -2, () -> x.nought(row));
            x.unrule();
            due(10, "no more full", x.nought(0), 0);
        }
    }

    // ---- promise 11: "All RULES go: how many."

    private static void unruleTellsHowManyWent() {
        for (int rules = 0; rules <= 8; rules++) {
            LeafTrees x = withRows("0..");
            for (int i = 0; i < rules; i++) due(11, "a rule", i % 2 == 0 ? x.nought(0) : x.rule(0, 0), i);
            due(11, "how many", x.unrule(), rules);
            due(11, "none are left", x.count(1), 0);
            due(11, "none to nothing", x.count(3), 0);
            refused(11, "rule 0 went", x, -2, () -> x.side(0, 0, 1));
            asks(11, "then none", x, 0, () -> x.unrule());
        }
    }

    private static void unruleLeavesActsAndRows() {
        LeafTrees x = withRows("0..", "1.", fullTree());
        long before = x.digest();
        x.nought(0);
        x.rule(0, 0);
        x.unrule();
        due(11, "all but the rules stays", x.digest(), before);
        due(11, "the tree is normal again", x.normal(0), 0);
        due(11, "a rule to a tree after one to nothing", x.rule(0, 0), 0);
        due(11, "its right one", x.side(0, 1, 3), 3);
        due(11, "is not nothing", x.count(3), 0);
    }

    // ---- promise 12: "how many symbols (NOTHING: 0, the ROW is empty then). BAD."

    private static void sideTakesRulesThatAreThere() {
        LeafTrees x = withRows("0..", "1...");
        for (int rules = 0; rules <= 8; rules++) {
            int next = rules;
            for (int bad : new int[] {-1, next, MIN, MAX}) {
                refused(12, "rule " + bad + " of " + rules, x, -2, () -> x.side(bad, 0, 9));
            }
            if (rules > 0) due(12, "the last of " + rules, x.side(rules - 1, 0, 8), 4 - rules % 2);
            x.nought(rules % 2);
        }
        due(12, "the first of eight", x.side(0, 0, 8), 3);
        x.unrule();
        refused(12, "a rule that went", x, -2, () -> x.side(0, 0, 9));
    }

    private static void sideTakesLeftAndRight() {
        LeafTrees x = withRows("00...", "1...");
        x.rule(0, 1);
        for (int bad : new int[] {-1, 2, MIN, MAX}) {
            refused(12, "which " + bad, x, -2, () -> x.side(0, bad, 9));
            refused(12, "which " + bad + ", and no rule", x, -2, () -> x.side(1, bad, 9));
        }
        due(12, "left", x.side(0, 0, 9), 5);
        dueRow(12, "left", x, 9, "00...");
        due(12, "right", x.side(0, 1, 9), 4);
        dueRow(12, "right", x, 9, "1...");
    }

    private static void sideTakesRowsZeroToNine() {
        LeafTrees x = withRows("00...", "1...");
        x.rule(0, 1);
        x.nought(0);
        for (int row : NO_ROWS) {
            refused(12, "row " + row, x, -2, () -> x.side(0, 0, row));
            refused(12, "row " + row + " for nothing", x, -2, () -> x.side(1, 1, row));
        }
        due(12, "the first row", x.side(0, 1, 0), 4);
        due(12, "the last row", x.side(0, 1, 9), 4);
        due(12, "alike", x.same(0, 9), 1);
    }

    private static void sideOfNothingIsAnEmptyRow() {
        LeafTrees x = withRows("0..", fullTree(), "");
        x.nought(0);
        for (int row = 0; row < 3; row++) {
            due(12, "nothing", x.side(0, 1, row), 0);
            dueRow(12, "nothing", x, row, "");
            due(12, "no tree", x.about(row, 1), 0);
        }
        due(12, "its left one", x.side(0, 0, 2), 3);
    }

    private static void sideComesToAFullRow() {
        LeafTrees x = withRows(fullTree(), "0..", chainOfThree('1', 4));
        x.nought(1);
        x.nought(2);
        due(12, "the shortest left one", x.side(0, 0, 0), 3);
        dueRow(12, "the shortest left one", x, 0, "0..");
        due(12, "the longest left one", x.side(1, 0, 0), 13);
        dueRow(12, "the longest left one", x, 0, chainOfThree('1', 4));
    }

    // ---- promise 13: "The first PLACE at which a RULE MATCHES a TREE. NONE: at none. BAD."

    private static void matchesTakesRulesThatAreThere() {
        LeafTrees x = withRows("0..", "1...");
        for (int rules = 0; rules <= 8; rules++) {
            int next = rules;
            for (int bad : new int[] {-1, next, MIN, MAX}) {
                refused(13, "rule " + bad + " of " + rules, x, -2, () -> x.matches(bad, 0));
            }
            if (rules > 0) due(13, "the last of " + rules, x.matches(rules - 1, 0), rules % 2 - 1);
            x.nought(rules % 2);
        }
        due(13, "the first of eight", x.matches(0, 0), 0);
        x.unrule();
        refused(13, "a rule that went", x, -2, () -> x.matches(0, 0));
    }

    private static void matchesNeedsATree() {
        LeafTrees x = withRows("0..");
        x.nought(0);
        for (int row : NO_ROWS) {
            refused(13, "row " + row, x, -2, () -> x.matches(0, row));
            refused(13, "row " + row + ", and no rule", x, -2, () -> x.matches(1, row));
        }
        for (String none : NO_TREES) {
            write(x, 1, none);
            refused(13, "'" + none + "'", x, -2, () -> x.matches(0, 1));
        }
        write(x, 9, "0..");
        asks(13, "the first row", x, 0, () -> x.matches(0, 0));
        asks(13, "the last row", x, 0, () -> x.matches(0, 9));
    }

    private static void matchesFromTheFirstPlaceToTheLast() {
        LeafTrees x = withRows(fullTree(), "1...", "0..", chain("0000"), ".", comb('0', 4), comb('0', 29));
        x.nought(1);
        x.nought(2);
        x.nought(3);
        x.nought(5);
        due(13, "at the last act of a full row", x.matches(0, 0), 56);
        due(13, "at the whole", x.matches(1, 0), 0);
        due(13, "a left one of four acts", x.matches(2, 0), 0);
        due(13, "at none of a full row", x.matches(3, 0), -1);
        due(13, "at none of a leaf", x.matches(0, 4), -1);
        due(13, "the whole is the left one", x.matches(2, 3), 0);
        write(x, 7, "1..".repeat(15) + comb('0', 4));
        due(13, "four acts at the end", x.matches(3, 7), 45);
        write(x, 7, "1..".repeat(15) + comb('0', 3));
        due(13, "three acts at the end", x.matches(3, 7), -1);
        due(13, "the first of 26 places", x.matches(3, 6), 0);
    }

    private static void matchesNeedsEachAct() {
        LeafTrees x = world(2, 2, 3);
        write(x, 0, "01.0...");
        x.nought(0);
        String[] others = {"0..", "01...", "01.1...", "00.0...", "11.0...", "010....", "0.1.0..", "01..0.."};
        for (String other : others) {
            write(x, 1, other);
            due(13, "an act less or another: " + other, x.matches(0, 1), -1);
        }
        write(x, 1, "01.0...");
        due(13, "each act", x.matches(0, 1), 0);
        write(x, 1, "2..01.0...");
        due(13, "each act, further down", x.matches(0, 1), 3);
    }

    private static void matchesAnyTreeAtALeaf() {
        LeafTrees x = withRows("0.0..", "00..01...00...", "0.00...", "00...");
        x.nought(0);
        due(13, "trees at each leaf", x.matches(0, 1), 0);
        due(13, "a tree at one leaf", x.matches(0, 2), 0);
        due(13, "no act at its act", x.matches(0, 3), -1);
    }

    // ---- promise 14: "1 done, 0 it is NORMAL, 2 it is NOTHING (the ROW is empty then). BAD; SPENT (the ROW stays)."

    private static void stepNeedsATree() {
        LeafTrees x = withRows("0..");
        x.rule(0, 0);
        for (int row : NO_ROWS) refused(14, "row " + row, x, -2, () -> x.step(row));
        for (String none : NO_TREES) {
            write(x, 1, none);
            refused(14, "'" + none + "'", x, -2, () -> x.step(1));
        }
        write(x, 9, "0..");
        due(14, "the first row", x.step(0), 1);
        due(14, "the last row", x.step(9), 1);
    }

    private static void stepOfNormalTrees() {
        LeafTrees x = withRows(fullTree(), ".", "0..", "1...");
        for (int i = 0; i < 4; i++) {
            int row = i;
            asks(14, "without rules, row " + i, x, 0, () -> x.step(row));
        }
        x.nought(3);
        asks(14, "a leaf", x, 0, () -> x.step(1));
        asks(14, "another act", x, 0, () -> x.step(2));
        due(14, "no more normal", x.step(0), 2);
    }

    private static void stepUsesTheFirstPlaceThenTheFirstRule() {
        LeafTrees x = world(2, 2, 2);
        addRule(x, chain("12"), chain("22"));
        addRule(x, chain("0"), chain("1"));
        addNought(x, chain("0"));
        write(x, 0, chain("012"));
        due(14, "a later rule at an earlier place", x.step(0), 1);
        dueRow(14, "a later rule at an earlier place", x, 0, chain("112"));
        due(14, "the one place", x.step(0), 1);
        dueRow(14, "the one place", x, 0, chain("122"));
        LeafTrees y = world(2, 2, 2);
        for (int i = 0; i < 6; i++) addRule(y, chain("2"), chain("2"));
        addRule(y, chain("0"), chain("1"));
        addNought(y, chain("0"));
        write(y, 0, chain("0"));
        due(14, "rule 6 before rule 7", y.step(0), 1);
        dueRow(14, "rule 6 before rule 7", y, 0, chain("1"));
        LeafTrees z = world(2, 2, 2);
        for (int i = 0; i < 7; i++) addRule(z, chain("2"), chain("2"));
        addNought(z, chain("0"));
        write(z, 0, chain("10"));
        due(14, "rule 7, the last", z.step(0), 2);
    }

    private static void stepToNothingEmptiesTheRow() {
        LeafTrees x = withRows(fullTree(), "1...", "0..");
        x.nought(1);
        due(14, "a full row", x.step(0), 2);
        dueRow(14, "a full row", x, 0, "");
        refused(14, "an empty row is no tree", x, -2, () -> x.step(0));
        dueRow(14, "another row stays", x, 1, "1...");
        due(14, "the whole", x.step(1), 2);
        dueRow(14, "the whole", x, 1, "");
    }

    private static void stepMakesSixtySymbolsAtMost() {
        // From one act of three entries to two of two: one symbol more.
        LeafTrees x = withRows("1...", "00...", "0.".repeat(24) + "1..1..1...", "0.".repeat(28) + "1...");
        x.rule(0, 1);
        due(14, "58 become 59", x.step(2), 1);
        due(14, "59 become 60", x.step(2), 1);
        due(14, "60", x.about(2, 0), 60);
        refused(14, "60 would become 61", x, -5, () -> x.step(2));
        dueRow(14, "the row stays", x, 2, "0.".repeat(24) + "00..00..1...");
        refused(14, "61 by the last symbols", x, -5, () -> x.step(3));
    }

    private static void stepOfAFullRow() {
        LeafTrees x = withRows(fullTree(), "1...", "00...", "0.0..", "0..");
        x.rule(3, 1);
        due(14, "a row that becomes shorter", x.step(0), 1);
        dueRow(14, "a row that becomes shorter", x, 0, "1.." + "0.".repeat(26) + "1...");
        x.unrule();
        write(x, 0, fullTree());
        x.rule(3, 2);
        due(14, "a row as long as before", x.step(0), 1);
        dueRow(14, "a row as long as before", x, 0, "00.." + "0.".repeat(26) + "1...");
        x.unrule();
        write(x, 0, "1.." + "0.".repeat(26) + "1...");
        x.rule(1, 2);
        x.nought(4);
        due(14, "59 become 60, not yet nothing", x.step(0), 1);
        due(14, "60", x.about(0, 0), 60);
        due(14, "then nothing", x.step(0), 2);
    }

    // ---- promise 15: "how many STEPS; -10 less these: it is NOTHING (the ROW is empty then). BAD; SPENT (the ROW stays)."

    private static void normalNeedsATree() {
        LeafTrees x = withRows("1...", "00...");
        x.rule(0, 1);
        for (int row : NO_ROWS) refused(15, "row " + row, x, -2, () -> x.normal(row));
        for (String none : NO_TREES) {
            write(x, 1, none);
            refused(15, "'" + none + "'", x, -2, () -> x.normal(1));
        }
        write(x, 9, "1...");
        due(15, "the first row", x.normal(0), 1);
        due(15, "the last row", x.normal(9), 1);
    }

    private static void normalOfNormalTrees() {
        LeafTrees x = withRows(fullTree(), ".", "0..", "1...");
        for (int i = 0; i < 4; i++) {
            int row = i;
            asks(15, "without rules, row " + i, x, 0, () -> x.normal(row));
        }
        x.nought(3);
        asks(15, "a leaf", x, 0, () -> x.normal(1));
        asks(15, "another act", x, 0, () -> x.normal(2));
    }

    /** Each step swaps two neighbours, so that there are as many as pairs in the wrong order. */
    private static void normalTakesTwoHundredSteps() {
        LeafTrees x = world(2, 2);
        addRule(x, chain("10"), chain("01"));
        String start = chain("1".repeat(5) + "0" + "1".repeat(9) + "0".repeat(14));
        write(x, 0, start);
        refused(15, "201 steps", x, -5, () -> x.normal(0));
        dueRow(15, "the row stays", x, 0, start);
        due(15, "one step", x.step(0), 1);
        due(15, "200 steps", x.normal(0), 200);
        dueRow(15, "200 steps", x, 0, chain("0".repeat(15) + "1".repeat(14)));
        due(15, "no more", x.normal(0), 0);
        addRule(x, "0..", "0..");
        refused(15, "for ever", x, -5, () -> x.normal(0));
    }

    private static void normalToNothingTakesTwoHundredSteps() {
        LeafTrees x = world(2, 2, 2, 2);
        addRule(x, chain("10"), chain("02"));
        addRule(x, chain("2"), chain("1"));
        addNought(x, chain("13"));
        write(x, 0, chain("22" + "1".repeat(7) + "0".repeat(11) + "3"));
        refused(15, "nothing by step 201", x, -5, () -> x.normal(0));
        due(15, "one step", x.step(0), 1);
        due(15, "nothing by step 200", x.normal(0), -210);
        dueRow(15, "nothing by step 200", x, 0, "");
        write(x, 0, chain("1" + "0" + "3"));
        due(15, "nothing by step 3", x.normal(0), -13);
        write(x, 0, chain("13"));
        due(15, "nothing by step 1", x.normal(0), -11);
    }

    private static void normalMakesSixtySymbolsAtMost() {
        LeafTrees x = world(2, 3, 3);
        addRule(x, "1...", "00...");
        write(x, 0, "0.".repeat(24) + "1..1..2...");
        due(15, "58 become 60", x.normal(0), 2);
        dueRow(15, "58 become 60", x, 0, "0.".repeat(24) + "00..00..2...");
        String start = "0.".repeat(23) + "1..1..1..2...";
        write(x, 1, start);
        due(15, "59", x.about(1, 0), 59);
        refused(15, "59 would become 60, 61 and 62", x, -5, () -> x.normal(1));
        dueRow(15, "not even the first step is done", x, 1, start);
        write(x, 2, "0.".repeat(25) + "1..1..2...");
        refused(15, "60 would become 61", x, -5, () -> x.normal(2));
        spentBeforeNothing();
    }

    /** A row above 60 on the way is SPENT, though the next step would make NOTHING of it. */
    private static void spentBeforeNothing() {
        LeafTrees x = withRows("1...", "00...", fullTree());
        x.rule(0, 1);
        x.nought(1);
        refused(15, "above 60, then nothing", x, -5, () -> x.normal(2));
        write(x, 2, "0.".repeat(27) + "1...");
        due(15, "59 symbols, then nothing", x.normal(2), -12);
        x.unrule();
        x.nought(0);
        write(x, 2, fullTree());
        due(15, "a full row that is nothing", x.normal(2), -11);
        dueRow(15, "a full row that is nothing", x, 2, "");
    }

    private static void normalToNothingEmptiesTheRow() {
        LeafTrees x = withRows("0..", "1...", "1..0..");
        x.nought(0);
        due(15, "the whole", x.normal(0), -11);
        dueRow(15, "the whole", x, 0, "");
        refused(15, "an empty row is no tree", x, -2, () -> x.normal(0));
        due(15, "below another act", x.normal(2), -11);
        dueRow(15, "below another act", x, 2, "");
        dueRow(15, "another row stays", x, 1, "1...");
    }
}
