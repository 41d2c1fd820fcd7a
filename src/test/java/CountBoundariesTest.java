import java.math.BigInteger;

/** The boundary cases of promises 16 to 23: counts, overlaps, series, the dual, and the digest. */
public final class CountBoundariesTest extends Checks {
    private static final int[] NO_N = {0, 7, -1, MIN, MAX};
    private static final long[] CATALAN = {0, 1, 1, 2, 5, 14, 42};

    public static void main(String[] args) {
        howManyTakesOneToSix();
        howManyOfNoActs();
        howManyOfFullWorldsOfActs();
        howManyOfAFullWorldOfRules();
        howManyOfEightUnlikeRules();
        howManyOfSmallAndLargeLeftTrees();
        theLeafAloneCounts();
        overlapsOfNoRules();
        overlapsAboveZeroOrPBelowQ();
        overlapsWhereThereIsAnAct();
        overlapsOnlyIfThereIsSuchATree();
        overlapsOfAFullWorld();
        overlapTakesNumbersThatAreThere();
        overlapTakesRowsZeroToNine();
        overlapLeavesTheRowIfThereAreNotSoMany();
        overlapComesToAFullRow();
        overlapInOrder();
        closesWithoutOverlaps();
        closesTellsTheFirst();
        closesWithNothing();
        closesTakesTwoHundredSteps();
        closesIsSpentOnTheWay();
        turnedTakesOneToSix();
        turnedIsOneThenSumsToNothing();
        turnedOfKnownSeries();
        dualTakesOneToSix();
        dualNeedsActsOfTwoEntries();
        dualNeedsLeftTreesOfSizeTwo();
        dualNeedsNothingAtTheRight();
        dualIsRefusedByTheFirstReason();
        dualOfNoRulesAndOfAllOfThem();
        dualOfFourActs();
        countTakesZeroToThree();
        countOfAFullWorld();
        digestOfANewObject();
        digestOfAFullWorld();
        digestSeesEachPart();
        answersFollowEachChange();
        finish();
    }

    // ---- promise 16: "HOW MANY of n (1 .. 6)", "BAD."

    private static void howManyTakesOneToSix() {
        LeafTrees x = world(2);
        for (int bad : NO_N) refused(16, "n " + bad, x, -2, () -> x.howMany(bad));
        asks(16, "n 1, the least", x, 1, () -> x.howMany(1));
        asks(16, "n 6, the most", x, 42, () -> x.howMany(6));
    }

    private static void howManyOfNoActs() {
        LeafTrees x = new LeafTrees();
        for (int n = 1; n <= 6; n++) due(16, "no acts, n " + n, x.howMany(n), n == 1 ? 1 : 0);
    }

    private static void howManyOfFullWorldsOfActs() {
        for (int ofThree = 0; ofThree <= 4; ofThree++) {
            LeafTrees x = new LeafTrees();
            for (int i = 0; i < 4; i++) due(16, "an act", x.act(i < ofThree ? 3 : 2), i);
            long[] want = allTrees(4 - ofThree, ofThree);
            for (int n = 1; n <= 6; n++) due(16, ofThree + " of three entries, n " + n, x.howMany(n), want[n]);
        }
        due(16, "the most trees", world(2, 2, 2, 2).howMany(6), 43008);
    }

    private static long[] allTrees(int ofTwo, int ofThree) {
        long[] trees = {0, 1, 0, 0, 0, 0, 0};
        for (int n = 2; n <= 6; n++) {
            for (int i = 1; i < n; i++) {
                trees[n] += ofTwo * trees[i] * trees[n - i];
                for (int j = 1; i + j < n; j++) trees[n] += ofThree * trees[i] * trees[j] * trees[n - i - j];
            }
        }
        return trees;
    }

    private static void howManyOfAFullWorldOfRules() {
        LeafTrees x = world(2, 2, 2, 2);
        write(x, 0, "3..");
        for (int i = 0; i < 8; i++) due(16, "a rule", i % 2 == 0 ? x.nought(0) : x.rule(0, 0), i);
        for (int n = 1; n <= 6; n++) {
            due(16, "three of four acts, n " + n, x.howMany(n), CATALAN[n] * (long) Math.pow(3, n - 1));
        }
        // Eight rules of four acts each: all right combs with act 0 on top, but for its own act at the end.
        LeafTrees y = world(2, 2);
        for (int i = 0; i < 8; i++) {
            String acts = "0" + i / 4 + i / 2 % 2 + i % 2;
            due(16, "a rule", addNought(y, chain(acts)), i);
        }
        due(16, "four leaves, four acts do not fit", y.howMany(4), 5 * 8);
        due(16, "five leaves", y.howMany(5), 14 * 16 - 8);
        refused(16, "BAD still", y, -2, () -> y.howMany(7));
    }

    /** Four acts in eight shapes: many unlike parts of left trees. What is due was counted tree by tree, by PlainModel. */
    private static void howManyOfEightUnlikeRules() {
        String[] lefts = {"0123.....", "1.2.3.0..", "23..01...", "3.012....", "012..3...", "1.32..0..", "20.3..1..",
            "31.2.0..."};
        LeafTrees x = world(2, 2, 2, 2);
        LeafTrees y = world(3, 2, 2, 2);
        for (int i = 0; i < 8; i++) {
            due(16, "a rule", addNought(x, lefts[i]), i);
            due(16, "a rule", addNought(y, lefts[i].replace("0", "0.")), i);
        }
        long[] ofTwo = {0, 1, 4, 32, 320, 3576, 42787};
        long[] mixed = {0, 1, 3, 19, 150, 1326, 12550};
        for (int n = 1; n <= 6; n++) {
            due(16, "eight unlike rules, n " + n, x.howMany(n), ofTwo[n]);
            due(16, "with an act of three entries, n " + n, y.howMany(n), mixed[n]);
        }
        y.unrule();
        for (int n = 1; n <= 6; n++) due(16, "nothing is left of the rules, n " + n, y.howMany(n), allTrees(3, 1)[n]);
    }

    private static void howManyOfSmallAndLargeLeftTrees() {
        LeafTrees x = world(2);
        addRule(x, "0..", "0..");
        for (int n = 2; n <= 6; n++) due(16, "a left tree of size 1, n " + n, x.howMany(n), 0);
        LeafTrees y = world(2);
        addNought(y, chain("0000"));
        due(16, "a left tree of size 4, fewer leaves", y.howMany(4), 5);
        due(16, "a left tree of size 4, as many leaves", y.howMany(5), 13);
        due(16, "a left tree of size 4, more leaves", y.howMany(6), 36);
        LeafTrees z = world(3);
        addNought(z, chainOfThree('0', 4));
        due(16, "more leaves than are asked for", z.howMany(5), 3);
        addNought(z, chainOfThree('0', 2));
        due(16, "as many leaves", z.howMany(5), 2);
    }

    private static void theLeafAloneCounts() {
        LeafTrees x = world(2, 3);
        addNought(x, "0..");
        addNought(x, "1...");
        due(16, "the leaf alone", x.howMany(1), 1);
        for (int n = 2; n <= 6; n++) due(16, "nothing is none, n " + n, x.howMany(n), 0);
    }

    // ---- promise 17: "How many OVERLAPS there are."

    private static void overlapsOfNoRules() {
        LeafTrees x = world(2);
        asks(17, "no rules", x, 0, () -> x.overlaps());
        addNought(x, "0..");
        asks(17, "one of size 1 has none with itself", x, 0, () -> x.overlaps());
        x.unrule();
        asks(17, "the rules went", x, 0, () -> x.overlaps());
    }

    private static void overlapsAboveZeroOrPBelowQ() {
        LeafTrees x = world(2);
        addNought(x, "00...");
        due(17, "p with itself: above 0 alone", x.overlaps(), 1);
        addNought(x, "00...");
        due(17, "at 0 once, above 0 for each pair", x.overlaps(), 5);
        due(18, "p below q: at 0 first", x.overlap(1, 0), 100);
        due(18, "then above 0", x.overlap(2, 0), 101);
        due(18, "q below p: above 0 alone", x.overlap(3, 0), 1001);
        due(18, "the last", x.overlap(4, 0), 1101);
    }

    private static void overlapsWhereThereIsAnAct() {
        LeafTrees x = world(2, 2);
        addNought(x, chain("01"));
        addNought(x, chain("1"));
        due(17, "not at its leaves", x.overlaps(), 1);
        due(18, "at its one act of the kind", x.overlap(0, 0), 102);
        dueRow(18, "at its one act of the kind", x, 0, chain("01"));
    }

    private static void overlapsOnlyIfThereIsSuchATree() {
        LeafTrees x = world(2, 2);
        addNought(x, "00..0..");
        addNought(x, "01...");
        due(17, "unlike acts at 0 and below", x.overlaps(), 4);
        int[] codes = {1, 4, 101, 104};
        String[] tops = {"000..0..0..", "00..00..0..", "001...0..", "00..01..."};
        for (int i = 0; i < 4; i++) {
            due(18, "the least tree, " + i, x.overlap(i, 0), codes[i]);
            dueRow(18, "the least tree, " + i, x, 0, tops[i]);
        }
    }

    private static LeafTrees eightChainsOfThree() {
        LeafTrees x = world(3, 2);
        write(x, 0, chainOfThree('0', 4));
        for (int i = 0; i < 8; i++) x.nought(0);
        return x;
    }

    private static void overlapsOfAFullWorld() {
        LeafTrees x = eightChainsOfThree();
        asks(17, "64 pairs at three places, 28 at 0", x, 220, () -> x.overlaps());
        LeafTrees y = world(2);
        write(y, 0, comb('0', 4));
        for (int i = 0; i < 8; i++) y.nought(0);
        due(17, "of two entries", y.overlaps(), 220);
        LeafTrees z = world(2);
        write(z, 0, "0..");
        for (int i = 0; i < 8; i++) z.nought(0);
        due(17, "of size 1: at 0 alone", z.overlaps(), 28);
    }

    // ---- promise 18: "NONE: not so many (the ROW stays). BAD: the ROW, i below 0."

    private static void overlapTakesNumbersThatAreThere() {
        LeafTrees x = eightChainsOfThree();
        due(18, "the first", x.overlap(0, 1), 3);
        dueRow(18, "the first", x, 1, chainOfThree('0', 5));
        due(18, "the last", x.overlap(219, 1), 7709);
        dueRow(18, "the last, the largest", x, 1, chainOfThree('0', 7));
        for (int i : new int[] {220, 221, 832, MAX - 1, MAX}) asks(18, "not so many, " + i, x, -1, () -> x.overlap(i, 1));
        for (int i : new int[] {-1, -2, MIN, MIN + 1}) refused(18, "below 0, " + i, x, -2, () -> x.overlap(i, 1));
    }

    private static void overlapTakesRowsZeroToNine() {
        LeafTrees x = world(2);
        addNought(x, "00...");
        for (int row : NO_ROWS) {
            refused(18, "row " + row, x, -2, () -> x.overlap(0, row));
            refused(18, "BAD, though not so many: row " + row, x, -2, () -> x.overlap(1, row));
            refused(18, "BAD, though not so many: row " + row, x, -2, () -> x.overlap(MAX, row));
            refused(18, "neither, row " + row, x, -2, () -> x.overlap(-1, row));
        }
        for (int row = 0; row < 10; row++) {
            due(18, "row " + row, x.overlap(0, row), 1);
            dueRow(18, "row " + row, x, row, "000....");
        }
    }

    private static void overlapLeavesTheRowIfThereAreNotSoMany() {
        LeafTrees x = world(2, 3);
        write(x, 0, fullTree());
        asks(18, "no rules, a full row", x, -1, () -> x.overlap(0, 0));
        asks(18, "no rules, an empty row", x, -1, () -> x.overlap(0, 1));
        addNought(x, "00...");
        asks(18, "one overlap, a full row", x, -1, () -> x.overlap(1, 0));
        asks(18, "one overlap, an empty row", x, -1, () -> x.overlap(1, 1));
        dueRow(18, "the row stays", x, 0, fullTree());
    }

    private static void overlapComesToAFullRow() {
        LeafTrees x = world(2, 3);
        addNought(x, "00...");
        write(x, 0, fullTree());
        due(18, "to a full row", x.overlap(0, 0), 1);
        dueRow(18, "to a full row", x, 0, "000....");
    }

    private static void overlapInOrder() {
        LeafTrees x = world(2);
        addNought(x, chain("00"));
        addNought(x, chain("000"));
        addNought(x, chain("0"));
        int[] codes = {2, 100, 102, 200, 202, 1002, 1004, 1102, 1104, 1200, 1202, 1204};
        String[] acts = {"000", "000", "0000", "00", "00", "000", "0000", "0000", "00000", "000", "000", "000"};
        due(17, "how many", x.overlaps(), codes.length);
        for (int i = 0; i < codes.length; i++) {
            due(18, "by p, then q, then u: " + i, x.overlap(i, 5), codes[i]);
            dueRow(18, "the least tree, " + i, x, 5, chain(acts[i]));
        }
    }

    // ---- promise 19: "The first OVERLAP that does not CLOSE. NONE: all do. SPENT: a NORMAL FORM on the way is."

    private static void closesWithoutOverlaps() {
        LeafTrees x = world(2, 2);
        asks(19, "no rules", x, -1, () -> x.closes());
        addRule(x, "0..", "0..");
        asks(19, "no overlaps, though no normal form ends", x, -1, () -> x.closes());
        addRule(x, "1..", "1..");
        asks(19, "two such rules", x, -1, () -> x.closes());
        due(19, "all of a full world do", eightChainsOfThree().closes(), -1);
    }

    private static void closesTellsTheFirst() {
        LeafTrees x = world(2, 2, 2);
        addRule(x, "0..", "1..");
        addRule(x, "0..", "2..");
        addNought(x, "0..");
        due(19, "the first of three open ones", x.closes(), 0);
        LeafTrees y = world(2, 2, 2);
        write(y, 0, "0..");
        for (int i = 0; i < 6; i++) y.nought(0);
        addRule(y, "1..", "2..");
        due(19, "all of 15 do", y.closes(), -1);
        addNought(y, "1..");
        due(19, "there are 16", y.overlaps(), 16);
        due(19, "the last does not", y.closes(), 15);
        y.unrule();
        due(19, "the rules went", y.closes(), -1);
    }

    private static void closesWithNothing() {
        LeafTrees x = world(2, 2);
        addNought(x, "0..");
        addNought(x, "0..");
        due(19, "both nothing at once", x.closes(), -1);
        x.unrule();
        addNought(x, "0..");
        addRule(x, "0..", "1..");
        due(19, "p makes nothing, q a tree", x.closes(), 0);
        addNought(x, "1..");
        due(19, "nothing at once and after a step", x.closes(), -1);
        x.unrule();
        addRule(x, "0..", "1..");
        addNought(x, "0..");
        due(19, "q makes nothing, p a tree", x.closes(), 0);
    }

    /**
     * Acts 0 and 1 are the digits of a number, 2 a digit to be carried, and act 3 of three entries is its end:
     * the rules count it up, so the steps can be told from the number with which rule 0 begins.
     */
    private static LeafTrees counter(String begin) {
        LeafTrees x = world(2, 2, 2, 3);
        addRule(x, chainOfThree('3', 4), digits(begin) + "3...");
        String[][] rules = {{"03", "13"}, {"13", "23"}, {"02", "10"}, {"12", "20"}};
        for (String[] r : rules) {
            boolean atTheEnd = r[0].endsWith("3");
            if (atTheEnd) addRule(x, digits(r[0].substring(0, 1)) + "3...", digits(r[1].substring(0, 1)) + "3...");
            else addRule(x, chain(r[0]), chain(r[1]));
        }
        return x;
    }

    private static String digits(String acts) {
        String symbols = chain(acts);
        return symbols.substring(0, symbols.length() - 1);
    }

    private static void closesTakesTwoHundredSteps() {
        LeafTrees x = counter("010102");
        write(x, 0, digits("010102") + "3..3...");
        due(15, "what rule 0 makes of the first overlap", x.normal(0), 200);
        due(19, "200 steps: it does not close", x.closes(), 0);
        LeafTrees y = counter("010101");
        write(y, 0, digits("010101") + "3..3...");
        due(15, "what rule 0 makes of the first overlap", y.normal(0), -5);
        refused(19, "201 steps: SPENT", y, -5, () -> y.closes());
        due(15, "one step", y.step(0), 1);
        due(15, "200 steps", y.normal(0), 200);
    }

    private static void closesIsSpentOnTheWay() {
        LeafTrees x = world(2, 2);
        addNought(x, "0..");
        addRule(x, "0..", "1..");
        addRule(x, "1..", "1..");
        refused(19, "p makes nothing, q is spent", x, -5, () -> x.closes());
        x.unrule();
        addRule(x, "0..", "1..");
        addNought(x, "0..");
        addRule(x, "1..", "1..");
        refused(19, "p is spent, q makes nothing", x, -5, () -> x.closes());
        LeafTrees y = world(2, 2);
        addRule(y, "00...", "0.0..");
        addNought(y, "00...");
        addRule(y, "1..", "1..");
        addNought(y, "1..");
        asks(19, "an open one before a spent one", y, 1, () -> y.closes());
        LeafTrees z = world(2, 2);
        addRule(z, "1..", "1..");
        addNought(z, "1..");
        addRule(z, "00...", "0.0..");
        addNought(z, "00...");
        refused(19, "a spent one before an open one", z, -5, () -> z.closes());
    }

    // ---- promise 20: "d(n) of the TURNED SERIES of HOW MANY (n 1 .. 6). BAD."

    private static void turnedTakesOneToSix() {
        LeafTrees x = world(2);
        addNought(x, "00...");
        for (int bad : NO_N) refused(20, "n " + bad, x, -2, () -> x.turned(bad));
        asks(20, "n 1, the least", x, 1, () -> x.turned(1));
        asks(20, "n 6, the most", x, -1, () -> x.turned(6));
        LeafTrees none = new LeafTrees();
        for (int bad : NO_N) refused(20, "no acts, n " + bad, none, -2, () -> none.turned(bad));
        for (int n = 1; n <= 6; n++) due(20, "no acts, n " + n, none.turned(n), n == 1 ? 1 : 0);
    }

    /** "has d(1) 1, and the sum .. is 0 for n above 1", here taken as it is told. */
    private static void turnedIsOneThenSumsToNothing() {
        LeafTrees[] worlds = {new LeafTrees(), world(2), world(3), world(2, 3), world(2, 2, 2, 2), world(3, 3, 3, 3),
            world(2, 3, 3), eightChainsOfThree()};
        addNought(worlds[3], "0.1...");
        addRule(worlds[4], "00...", "0.0..");
        addNought(worlds[4], "12...");
        addNought(worlds[4], comb('3', 4));
        addNought(worlds[6], "0..");
        for (int i = 0; i < worlds.length; i++) {
            long[] c = new long[7];
            long[] d = new long[7];
            for (int n = 1; n <= 6; n++) {
                c[n] = worlds[i].howMany(n);
                d[n] = worlds[i].turned(n);
            }
            due(20, "world " + i + ", d(1)", d[1], 1);
            for (int n = 2; n <= 6; n++) {
                long sum = 0;
                for (int k = 1; k <= n; k++) sum += c[k] * products(d, k, n);
                due(20, "world " + i + ", the sum for " + n, sum, 0);
            }
        }
    }

    private static long products(long[] d, int k, int n) {
        if (k == 0) return n == 0 ? 1 : 0;
        long sum = 0;
        for (int m = 1; m <= n; m++) sum += d[m] * products(d, k - 1, n - m);
        return sum;
    }

    private static void turnedOfKnownSeries() {
        LeafTrees x = allOfSizeTwo();
        for (int n = 1; n <= 6; n++) {
            long want = CATALAN[n] << n - 1;
            due(20, "two acts, none below another, n " + n, x.turned(n), n % 2 == 1 ? want : -want);
        }
        x.unrule();
        for (int n = 3; n <= 6; n++) due(20, "without rules, n " + n, x.turned(n), 0);
        due(20, "without rules, n 2", x.turned(2), -2);
    }

    /** Two acts and eight rules: all trees of two acts are nothing. */
    private static LeafTrees allOfSizeTwo() {
        LeafTrees x = world(2, 2);
        for (int i = 0; i < 8; i++) {
            int above = i / 4;
            int below = i / 2 % 2;
            addNought(x, i % 2 == 0 ? chain("" + above + below) : "" + above + below + "...");
        }
        return x;
    }

    // ---- promise 21: "HOW MANY of THE DUAL (n 1 .. 6). BAD; NO: it is not there."

    private static void dualTakesOneToSix() {
        LeafTrees x = world(2);
        addNought(x, "00...");
        for (int bad : NO_N) refused(21, "n " + bad, x, -2, () -> x.dual(bad));
        for (int n = 1; n <= 6; n++) {
            int asked = n;
            asks(21, "n " + n, x, 1, () -> x.dual(asked));
        }
    }

    private static void dualNeedsActsOfTwoEntries() {
        LeafTrees x = new LeafTrees();
        for (int n = 1; n <= 6; n++) due(21, "no acts, n " + n, x.dual(n), n == 1 ? 1 : 0);
        for (int i = 0; i < 3; i++) {
            x.act(2);
            due(21, "acts of two entries", x.dual(2), i + 1);
        }
        x.act(3);
        for (int n = 1; n <= 6; n++) {
            int asked = n;
            refused(21, "the last act has three, n " + n, x, -3, () -> x.dual(asked));
        }
        LeafTrees y = world(3, 2);
        addNought(y, "11...");
        refused(21, "the first act has three", y, -3, () -> y.dual(1));
    }

    private static void dualNeedsLeftTreesOfSizeTwo() {
        for (String left : new String[] {"0..", "000....", "0000....."}) {
            LeafTrees x = world(2);
            addNought(x, "00...");
            due(21, "size 2", x.dual(6), 1);
            addNought(x, left);
            for (int n = 1; n <= 6; n++) {
                int asked = n;
                refused(21, "another size: " + left, x, -3, () -> x.dual(asked));
            }
            x.unrule();
            due(21, "without it", x.dual(2), 1);
            addNought(x, left);
            addNought(x, "00...");
            refused(21, "another size first: " + left, x, -3, () -> x.dual(3));
        }
    }

    private static void dualNeedsNothingAtTheRight() {
        LeafTrees x = world(2);
        addRule(x, "00...", "0.0..");
        refused(21, "size 2, to a tree", x, -3, () -> x.dual(1));
        x.unrule();
        for (int i = 0; i < 7; i++) addNought(x, "00...");
        due(21, "seven to nothing", x.dual(6), 1);
        addRule(x, "0.0..", "00...");
        refused(21, "the eighth to a tree", x, -3, () -> x.dual(6));
    }

    private static void dualIsRefusedByTheFirstReason() {
        LeafTrees x = world(2);
        addRule(x, "00...", "0.0..");
        for (int bad : NO_N) refused(21, "BAD before NO, by a rule, n " + bad, x, -2, () -> x.dual(bad));
        LeafTrees y = world(3);
        for (int bad : NO_N) refused(21, "BAD before NO, by an act, n " + bad, y, -2, () -> y.dual(bad));
    }

    private static void dualOfNoRulesAndOfAllOfThem() {
        LeafTrees x = world(2, 2);
        long[] none = {0, 1, 2, 0, 0, 0, 0};
        for (int n = 1; n <= 6; n++) due(21, "no rules: all of size 2 are nothing, n " + n, x.dual(n), none[n]);
        LeafTrees y = allOfSizeTwo();
        for (int n = 1; n <= 6; n++) due(21, "all of size 2: nothing is nothing, n " + n, y.dual(n), CATALAN[n] << n - 1);
        due(21, "and here", y.howMany(3), 0);
        due(21, "the leaf alone", y.dual(1), 1);
    }

    private static void dualOfFourActs() {
        LeafTrees x = world(2, 2, 2, 2);
        due(21, "no rules", x.dual(2), 4);
        due(21, "no rules", x.dual(3), 0);
        for (int i = 0; i < 8; i++) due(21, "a rule", addNought(x, chain("" + i / 4 * 3 + i % 4)), i);
        // Right combs alone: acts 0 and 3 anywhere but at the end, where any of the four may be.
        for (int n = 2; n <= 6; n++) due(21, "eight rules, n " + n, x.dual(n), 4L << n - 2);
    }

    // ---- promise 22: "0 ACTS, 1 RULES, 2 ROWS that are TREES, 3 RULES to NOTHING. BAD."

    private static void countTakesZeroToThree() {
        LeafTrees x = world(2, 3, 2);
        write(x, 0, "0..");
        x.rule(0, 0);
        x.nought(0);
        int[] want = {3, 2, 1, 1};
        for (int what = 0; what < 4; what++) {
            int asked = what;
            asks(22, "what " + what, x, want[what], () -> x.count(asked));
        }
        for (int bad : new int[] {-1, 4, MIN, MAX}) refused(22, "what " + bad, x, -2, () -> x.count(bad));
    }

    /** Ten full rows, four acts, eight rules, in far fewer than 512 calls. */
    private static LeafTrees fullWorld(int noughts) {
        LeafTrees x = world(2, 3, 3, 2);
        x.put(1, -1);
        write(x, 0, fullTree());
        write(x, 2, comb('3', 4));
        for (int i = 0; i < 8; i++) {
            if (i < noughts) x.nought(2);
            else x.rule(2, 2);
        }
        for (int to = 9; to > 0; to--) x.graft(1, 0, 0, to);
        return x;
    }

    private static void countOfAFullWorld() {
        LeafTrees none = new LeafTrees();
        for (int what = 0; what < 4; what++) due(22, "none, " + what, none.count(what), 0);
        LeafTrees x = fullWorld(8);
        int[] want = {4, 8, 10, 8};
        for (int what = 0; what < 4; what++) due(22, "all, " + what, x.count(what), want[what]);
        x.empty(9);
        due(22, "an empty row is no tree", x.count(2), 9);
        x.put(9, 0);
        due(22, "nor a part of one", x.count(2), 9);
        x.put(9, -1);
        x.put(9, -1);
        due(22, "a tree again", x.count(2), 10);
        x.put(9, -1);
        due(22, "nor a tree and more", x.count(2), 9);
        due(22, "no rules to nothing", fullWorld(0).count(3), 0);
        due(22, "seven of eight", fullWorld(7).count(3), 7);
    }

    // ---- promise 23: "h = 227; then h = 31 h + v for each v"

    /** In numbers without a bound; then what a long keeps of it. */
    private static long digestOf(String values) {
        BigInteger h = BigInteger.valueOf(227);
        for (String v : values.trim().split("\\s+")) {
            h = h.multiply(BigInteger.valueOf(31)).add(new BigInteger(v));
        }
        return h.longValue();
    }

    private static String symbols(String row) {
        StringBuilder values = new StringBuilder();
        for (char c : row.toCharArray()) values.append(c == '.' ? "-1" : "" + c).append(' ');
        return values.append("9 ").toString();
    }

    private static void digestOfANewObject() {
        LeafTrees x = new LeafTrees();
        due(23, "nothing but the ends of ten rows", x.digest(), digestOf("0 0 0 0 " + "9 ".repeat(10)));
        due(23, "again", x.digest(), digestOf("0 0 0 0 " + "9 ".repeat(10)));
    }

    private static void digestOfAFullWorld() {
        for (int noughts : new int[] {0, 5, 8}) {
            StringBuilder values = new StringBuilder("4 8 10 " + noughts + " 2 3 3 2 ");
            for (int row = 0; row < 10; row++) values.append(symbols(fullTree()));
            for (int i = 0; i < 8; i++) {
                values.append(symbols(comb('3', 4))).append(i < noughts ? "9 " : symbols(comb('3', 4)));
            }
            due(23, "with wrap-around, " + noughts, fullWorld(noughts).digest(), digestOf(values.toString()));
        }
    }

    private static void digestSeesEachPart() {
        LeafTrees x = world(2);
        String rows = "9 ".repeat(10);
        due(23, "an act", x.digest(), digestOf("1 0 0 0 2 " + rows));
        x.act(3);
        due(23, "another act", x.digest(), digestOf("2 0 0 0 2 3 " + rows));
        x.put(9, 0);
        due(23, "a symbol in the last row", x.digest(), digestOf("2 0 0 0 2 3 " + "9 ".repeat(9) + "0 9"));
        x.put(9, -1);
        x.put(9, -1);
        String filled = "9 ".repeat(9) + "0 -1 -1 9 ";
        due(23, "a tree", x.digest(), digestOf("2 0 1 0 2 3 " + filled));
        x.nought(9);
        due(23, "a rule to nothing", x.digest(), digestOf("2 1 1 1 2 3 " + filled + "0 -1 -1 9 9"));
        x.empty(9);
        due(23, "an empty row", x.digest(), digestOf("2 1 0 1 2 3 " + rows + "0 -1 -1 9 9"));
        x.unrule();
        due(23, "no rules", x.digest(), digestOf("2 0 0 0 2 3 " + rows));
    }

    // ---- promises 16 to 21: nothing that an answer rests on outlasts a change of acts or rules

    private static void answersFollowEachChange() {
        LeafTrees x = new LeafTrees();
        dueAnswers("new", x, 0, 0, 0, 0, -1);
        x.act(2);
        dueAnswers("an act", x, 2, 0, 0, 0, -1);
        addNought(x, "00...");
        dueAnswers("a rule to nothing", x, 1, 1, 1, 1, -1);
        addRule(x, "0.0..", "00...");
        dueAnswers("a rule to a tree", x, 0, 2, -3, 5, -1);
        x.unrule();
        dueAnswers("no rules", x, 2, 0, 0, 0, -1);
        addRule(x, "00...", "0.0..");
        dueAnswers("another rule to a tree", x, 1, 1, -3, 1, -1);
        addNought(x, "00...");
        dueAnswers("another rule to nothing", x, 1, 1, -3, 5, 1);
        x.act(3);
        dueAnswers("an act of three entries", x, 2, 0, -3, 5, 1);
        x.unrule();
        dueAnswers("no rules again", x, 3, -1, -3, 0, -1);
    }

    private static void dueAnswers(String what, LeafTrees x, int many, int turned, int dual, int overlaps, int closes) {
        due(16, what, x.howMany(3), many);
        due(20, what, x.turned(3), turned);
        due(21, what, x.dual(3), dual);
        due(17, what, x.overlaps(), overlaps);
        due(19, what, x.closes(), closes);
    }
}
