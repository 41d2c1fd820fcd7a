import java.util.Arrays;

/** Trees of acts put into one another's leaves, rules that change them, and counts of the normal ones. */
public final class LeafTrees {
    public static final int NONE = -1, BAD = -2, NO = -3, FULL = -4, SPENT = -5;

    private static final int MOST_ACTS = 4;
    private static final int MOST_ENTRIES = 3;
    private static final int ROWS = 10;
    private static final int ROOM = 60;
    private static final int MOST_RULES = 8;
    private static final int LEFT_SIZE = 4;
    // Four acts of three entries have nine leaves.
    private static final int LEFT_ROOM = 13;
    private static final int MOST_STEPS = 200;
    private static final int MOST_LEAVES = 6;
    // The rules' left trees have at most 32 acts; a dual of four acts asks for 4 acts alone and 32 trees of two.
    private static final int MOST_NODES = 36;

    private static final int IS_NORMAL = 0;
    private static final int IS_DONE = 1;
    private static final int IS_NOTHING = 2;

    private static final int NOT_SO_MANY = -100;
    private static final int NOTHING_AFTER = -10;
    private static final int DIGEST_START = 227;
    private static final int DIGEST_FACTOR = 31;
    private static final int DIGEST_END = 9;

    private final World world = new World();
    private final Row[] rows = new Row[ROWS];
    private final Row work = new Row();
    private final Shape shape = new Shape();
    private final Rewriter rewriter = new Rewriter();
    private final Peaks peaks = new Peaks();
    private final Census census = new Census();
    private final Series series = new Series();

    // What follows from acts and rules alone is kept until one of them changes: it is dear to find.
    private final long[] many = new long[MOST_LEAVES + 1];
    private boolean manyKnown;
    private final long[] dualMany = new long[MOST_LEAVES + 1];
    private boolean dualKnown;
    private int firstOpen = NONE;
    private boolean firstOpenKnown;

    public LeafTrees() {
        for (int i = 0; i < ROWS; i++) {
            rows[i] = new Row();
        }
    }

    public int act(int entries) {
        if (entries != 2 && entries != 3) {
            return BAD;
        }
        if (world.acts >= MOST_ACTS) {
            return FULL;
        }
        forget();
        return world.addAct(entries);
    }

    public int put(int row, int symbol) {
        if (!isRow(row) || !world.isSymbol(symbol)) {
            return BAD;
        }
        return rows[row].add(symbol) ? rows[row].length : FULL;
    }

    public int empty(int row) {
        if (!isRow(row)) {
            return BAD;
        }
        int had = rows[row].length;
        rows[row].clear();
        return had;
    }

    public int at(int row, int i) {
        if (!isRow(row)) {
            return BAD;
        }
        Row asked = rows[row];
        return i >= 0 && i < asked.length ? asked.symbols[i] : NOT_SO_MANY;
    }

    public int about(int row, int what) {
        if (!isRow(row) || what < 0 || what > 4) {
            return BAD;
        }
        Row asked = rows[row];
        boolean tree = world.isTree(asked);
        if (what == 0) {
            return asked.length;
        }
        if (what == 1) {
            return tree ? 1 : 0;
        }
        if (!tree) {
            return NO;
        }
        if (what == 2) {
            return asked.leaves();
        }
        return what == 3 ? asked.size() : shape.heightOf(world, asked);
    }

    public int graft(int a, int i, int b, int to) {
        if (!isTreeRow(a) || !isTreeRow(b) || !isRow(to)) {
            return BAD;
        }
        int place = rows[a].placeOfLeaf(i);
        if (place == NONE) {
            return BAD;
        }
        if (rows[a].length - 1 + rows[b].length > ROOM) {
            return FULL;
        }
        work.clear();
        work.addPart(rows[a], 0, place);
        work.addPart(rows[b], 0, rows[b].length);
        work.addPart(rows[a], place + 1, rows[a].length);
        return bring(work, to);
    }

    public int same(int a, int b) {
        if (!isTreeRow(a) || !isTreeRow(b)) {
            return BAD;
        }
        return rows[a].isLike(rows[b]) ? 1 : 0;
    }

    public int rule(int left, int right) {
        if (!isLeft(left) || !isTreeRow(right)) {
            return BAD;
        }
        if (rows[left].leaves() != rows[right].leaves()) {
            return NO;
        }
        if (world.ruleCount >= MOST_RULES) {
            return FULL;
        }
        forget();
        return world.addRule(rows[left], rows[right], false);
    }

    public int nought(int left) {
        if (!isLeft(left)) {
            return BAD;
        }
        if (world.ruleCount >= MOST_RULES) {
            return FULL;
        }
        forget();
        work.clear();
        return world.addRule(rows[left], work, true);
    }

    public int unrule() {
        int had = world.ruleCount;
        world.ruleCount = 0;
        forget();
        return had;
    }

    public int side(int rule, int which, int to) {
        if (!world.isRule(rule) || which < 0 || which > 1 || !isRow(to)) {
            return BAD;
        }
        Rule asked = world.rules[rule];
        return bring(which == 0 ? asked.left : asked.right, to);
    }

    public int matches(int rule, int row) {
        if (!world.isRule(rule) || !isTreeRow(row)) {
            return BAD;
        }
        return rewriter.firstPlace(world, world.rules[rule], rows[row]);
    }

    public int step(int row) {
        if (!isTreeRow(row)) {
            return BAD;
        }
        return rewriter.advance(world, rows[row]);
    }

    public int normal(int row) {
        if (!isTreeRow(row)) {
            return BAD;
        }
        work.become(rows[row]);
        int answer = rewriter.normalForm(world, work);
        if (answer != SPENT) {
            rows[row].become(work);
        }
        return answer;
    }

    public long howMany(int n) {
        if (!isLeafNumber(n)) {
            return BAD;
        }
        learnMany();
        return many[n];
    }

    public int overlaps() {
        int found = 0;
        peaks.restart();
        for (int i = 0; i < Peaks.SPOTS && peaks.next(world); i++) {
            found++;
        }
        return found;
    }

    public int overlap(int i, int to) {
        if (i < 0 || !isRow(to)) {
            return BAD;
        }
        peaks.restart();
        for (int k = 0; k < Peaks.SPOTS && peaks.next(world); k++) {
            if (k == i) {
                bring(peaks.top, to);
                return 1000 * peaks.outer + 100 * peaks.inner + peaks.place;
            }
        }
        return NONE;
    }

    public int closes() {
        if (firstOpenKnown) {
            return firstOpen;
        }
        firstOpen = NONE;
        firstOpenKnown = true;
        peaks.restart();
        for (int i = 0; i < Peaks.SPOTS && firstOpen == NONE && peaks.next(world); i++) {
            int meeting = rewriter.meet(world, peaks);
            if (meeting == SPENT) {
                firstOpen = SPENT;
            } else if (meeting == 0) {
                firstOpen = i;
            }
        }
        return firstOpen;
    }

    public long turned(int n) {
        if (!isLeafNumber(n)) {
            return BAD;
        }
        learnMany();
        series.turn(many);
        return series.turnedAbout[n];
    }

    public long dual(int n) {
        if (!isLeafNumber(n)) {
            return BAD;
        }
        if (!world.hasDual()) {
            return NO;
        }
        learnDual();
        return dualMany[n];
    }

    public int count(int what) {
        if (what < 0 || what > 3) {
            return BAD;
        }
        if (what == 0) {
            return world.acts;
        }
        if (what == 1) {
            return world.ruleCount;
        }
        return what == 2 ? treeRows() : world.rulesToNothing();
    }

    public long digest() {
        long h = DIGEST_START;
        h = DIGEST_FACTOR * h + world.acts;
        h = DIGEST_FACTOR * h + world.ruleCount;
        h = DIGEST_FACTOR * h + treeRows();
        h = DIGEST_FACTOR * h + world.rulesToNothing();
        for (int i = 0; i < world.acts; i++) {
            h = DIGEST_FACTOR * h + world.entries[i];
        }
        for (int i = 0; i < ROWS; i++) {
            h = rows[i].digestedAfter(h);
        }
        for (int i = 0; i < world.ruleCount; i++) {
            h = world.rules[i].left.digestedAfter(h);
            h = world.rules[i].right.digestedAfter(h);
        }
        return h;
    }

    private static boolean isRow(int row) {
        return row >= 0 && row < ROWS;
    }

    private static boolean isLeafNumber(int n) {
        return n >= 1 && n <= MOST_LEAVES;
    }

    private boolean isTreeRow(int row) {
        return isRow(row) && world.isTree(rows[row]);
    }

    private boolean isLeft(int row) {
        return isTreeRow(row) && rows[row].size() >= 1 && rows[row].size() <= LEFT_SIZE;
    }

    private int bring(Row from, int to) {
        rows[to].become(from);
        return from.length;
    }

    private int treeRows() {
        int trees = 0;
        for (int i = 0; i < ROWS; i++) {
            if (world.isTree(rows[i])) {
                trees++;
            }
        }
        return trees;
    }

    private void forget() {
        manyKnown = false;
        dualKnown = false;
        firstOpenKnown = false;
    }

    private void learnMany() {
        if (!manyKnown) {
            census.forbidLefts(world);
            census.run(world, many);
            manyKnown = true;
        }
    }

    private void learnDual() {
        if (!dualKnown) {
            census.forbidAllButLefts(world);
            census.run(world, dualMany);
            dualKnown = true;
        }
    }

    /** Symbols in order; a tree, or not. */
    private static final class Row {
        final int[] symbols = new int[ROOM];
        int length;

        void clear() {
            length = 0;
        }

        boolean add(int symbol) {
            if (length >= ROOM) {
                return false;
            }
            symbols[length] = symbol;
            length++;
            return true;
        }

        /** Adds the symbols from .. to - 1 of another row, or none of them if there is no room. */
        boolean addPart(Row other, int from, int to) {
            if (from < 0 || from > to || to > other.length || length + to - from > ROOM) {
                return false;
            }
            System.arraycopy(other.symbols, from, symbols, length, to - from);
            length += to - from;
            return true;
        }

        void become(Row other) {
            System.arraycopy(other.symbols, 0, symbols, 0, other.length);
            length = other.length;
        }

        boolean isLike(Row other) {
            if (length != other.length) {
                return false;
            }
            for (int i = 0; i < length; i++) {
                if (symbols[i] != other.symbols[i]) {
                    return false;
                }
            }
            return true;
        }

        int leaves() {
            int found = 0;
            for (int i = 0; i < length; i++) {
                if (symbols[i] == NONE) {
                    found++;
                }
            }
            return found;
        }

        int size() {
            return length - leaves();
        }

        /** NONE: there are not so many leaves. */
        int placeOfLeaf(int number) {
            int before = 0;
            for (int i = 0; i < length; i++) {
                if (symbols[i] == NONE) {
                    if (before == number) {
                        return i;
                    }
                    before++;
                }
            }
            return NONE;
        }

        long digestedAfter(long start) {
            long h = start;
            for (int i = 0; i < length; i++) {
                h = DIGEST_FACTOR * h + symbols[i];
            }
            return DIGEST_FACTOR * h + DIGEST_END;
        }
    }

    /** A left tree and a right one; the right row is empty if the rule makes nothing. */
    private static final class Rule {
        final Row left = new Row();
        final Row right = new Row();
        boolean toNothing;
    }

    /** The acts and the rules. */
    private static final class World {
        final int[] entries = new int[MOST_ACTS];
        int acts;
        final Rule[] rules = new Rule[MOST_RULES];
        int ruleCount;

        World() {
            for (int i = 0; i < MOST_RULES; i++) {
                rules[i] = new Rule();
            }
        }

        int addAct(int entriesOfIt) {
            if (acts >= MOST_ACTS) {
                return FULL;
            }
            entries[acts] = entriesOfIt;
            acts++;
            return acts - 1;
        }

        int addRule(Row left, Row right, boolean toNothing) {
            if (ruleCount >= MOST_RULES) {
                return FULL;
            }
            Rule added = rules[ruleCount];
            added.left.become(left);
            added.right.become(right);
            added.toNothing = toNothing;
            ruleCount++;
            return ruleCount - 1;
        }

        boolean isSymbol(int symbol) {
            return symbol >= NONE && symbol < acts;
        }

        boolean isRule(int number) {
            return number >= 0 && number < ruleCount;
        }

        int entriesOf(int symbol) {
            return symbol >= 0 && symbol < acts ? entries[symbol] : 0;
        }

        /** The place behind the tree that begins at a place; above the row's length if the row ends before it does. */
        int endOf(Row row, int from) {
            int wanted = 1;
            for (int i = Math.max(from, 0); i < row.length; i++) {
                wanted += entriesOf(row.symbols[i]) - 1;
                if (wanted == 0) {
                    return i + 1;
                }
            }
            return row.length + 1;
        }

        boolean isTree(Row row) {
            return endOf(row, 0) == row.length;
        }

        int rulesToNothing() {
            int found = 0;
            for (int i = 0; i < ruleCount; i++) {
                if (rules[i].toNothing) {
                    found++;
                }
            }
            return found;
        }

        boolean hasDual() {
            for (int i = 0; i < acts; i++) {
                if (entries[i] != 2) {
                    return false;
                }
            }
            for (int i = 0; i < ruleCount; i++) {
                if (!rules[i].toNothing || rules[i].left.size() != 2) {
                    return false;
                }
            }
            return true;
        }

        /** Whether a left tree of size 2 has the act above, and the act below at this entry of it. */
        boolean hasLeft(int above, int entry, int below) {
            for (int i = 0; i < ruleCount; i++) {
                int[] left = rules[i].left.symbols;
                if (left[0] == above && left[1 + entry] == below) {
                    return true;
                }
            }
            return false;
        }
    }

    /** Where the trees of a row end. */
    private static final class Shape {
        final int[] ends = new int[ROOM];

        /** Goes from the back, so that the trees below an act are known before it. */
        void measure(World world, Row tree) {
            for (int i = tree.length - 1; i >= 0; i--) {
                int end = i + 1;
                int below = world.entriesOf(tree.symbols[i]);
                for (int k = 0; k < below; k++) {
                    end = end < tree.length ? ends[end] : tree.length;
                }
                ends[i] = end;
            }
        }

        int heightOf(World world, Row tree) {
            measure(world, tree);
            int height = 0;
            for (int i = 0; i < tree.length; i++) {
                height = Math.max(height, actsOver(tree, i));
            }
            return height;
        }

        private int actsOver(Row tree, int place) {
            int found = 0;
            for (int i = 0; i <= place; i++) {
                if (tree.symbols[i] != NONE && ends[i] > place) {
                    found++;
                }
            }
            return found;
        }
    }

    /** Finds where rules match, and uses them. */
    private static final class Rewriter {
        private final Shape shape = new Shape();
        // Where the trees begin that the leaves of a left tree matched last.
        private final int[] caught = new int[ROOM];
        private final Row made = new Row();
        private final Row one = new Row();
        private final Row other = new Row();

        int firstPlace(World world, Rule rule, Row tree) {
            shape.measure(world, tree);
            for (int place = 0; place < tree.length; place++) {
                if (fits(rule.left, tree, place)) {
                    return place;
                }
            }
            return NONE;
        }

        /** One step: IS_DONE, IS_NORMAL, IS_NOTHING (the row is empty then), or SPENT (it stays). */
        int advance(World world, Row tree) {
            shape.measure(world, tree);
            for (int place = 0; place < tree.length; place++) {
                for (int i = 0; i < world.ruleCount && tree.symbols[place] != NONE; i++) {
                    if (fits(world.rules[i].left, tree, place)) {
                        return replace(world.rules[i], tree, place);
                    }
                }
            }
            return IS_NORMAL;
        }

        /** How many steps, NOTHING_AFTER less them (the row is empty then), or SPENT. */
        int normalForm(World world, Row tree) {
            for (int steps = 0; steps <= MOST_STEPS; steps++) {
                int done = advance(world, tree);
                if (done == IS_NORMAL) {
                    return steps;
                }
                if (done == SPENT || steps == MOST_STEPS) {
                    return SPENT;
                }
                if (done == IS_NOTHING) {
                    return NOTHING_AFTER - steps - 1;
                }
            }
            return SPENT;
        }

        /** Whether both ways down from an overlap end alike: 1, 0, or SPENT. */
        int meet(World world, Peaks peaks) {
            one.become(peaks.top);
            other.become(peaks.top);
            int oneWay = goDown(world, peaks.outer, one, 0);
            int otherWay = goDown(world, peaks.inner, other, peaks.place);
            if (oneWay == SPENT || otherWay == SPENT) {
                return SPENT;
            }
            return one.isLike(other) ? 1 : 0;
        }

        private int goDown(World world, int rule, Row tree, int place) {
            shape.measure(world, tree);
            if (!world.isRule(rule) || !fits(world.rules[rule].left, tree, place)) {
                return SPENT;
            }
            int done = replace(world.rules[rule], tree, place);
            return done == IS_DONE ? normalForm(world, tree) : done;
        }

        /** Whether a left tree matches at a place of the tree that was measured last. */
        private boolean fits(Row left, Row tree, int place) {
            int at = place;
            int leaves = 0;
            for (int i = 0; i < left.length; i++) {
                if (at >= tree.length) {
                    return false;
                }
                if (left.symbols[i] == NONE) {
                    caught[leaves] = at;
                    leaves++;
                    at = shape.ends[at];
                } else if (left.symbols[i] == tree.symbols[at]) {
                    at++;
                } else {
                    return false;
                }
            }
            return true;
        }

        /** Uses a rule at the place where its left tree was found to fit last. */
        private int replace(Rule rule, Row tree, int place) {
            if (rule.toNothing) {
                tree.clear();
                return IS_NOTHING;
            }
            made.clear();
            boolean room = made.addPart(tree, 0, place);
            int leaf = 0;
            for (int i = 0; i < rule.right.length && room; i++) {
                int symbol = rule.right.symbols[i];
                if (symbol == NONE) {
                    room = made.addPart(tree, caught[leaf], shape.ends[caught[leaf]]);
                    leaf++;
                } else {
                    room = made.add(symbol);
                }
            }
            if (!room || !made.addPart(tree, shape.ends[place], tree.length)) {
                return SPENT;
            }
            tree.become(made);
            return IS_DONE;
        }
    }

    /** Goes through the overlaps in their order. */
    private static final class Peaks {
        // One number for outer rule, inner rule and place, so that counting up is the order of the overlaps.
        static final int SPOTS = MOST_RULES * MOST_RULES * LEFT_ROOM;

        final Row top = new Row();
        int outer;
        int inner;
        int place;
        private int spot;

        void restart() {
            spot = -1;
        }

        boolean next(World world) {
            for (spot++; spot < SPOTS; spot++) {
                outer = spot / (MOST_RULES * LEFT_ROOM);
                inner = spot / LEFT_ROOM % MOST_RULES;
                place = spot % LEFT_ROOM;
                if (mayOverlap(world) && merge(world, world.rules[outer].left, world.rules[inner].left)) {
                    return true;
                }
            }
            return false;
        }

        private boolean mayOverlap(World world) {
            if (!world.isRule(outer) || !world.isRule(inner) || (place == 0 && outer >= inner)) {
                return false;
            }
            Row left = world.rules[outer].left;
            return place < left.length && left.symbols[place] != NONE;
        }

        /** Makes the least tree that has one tree at its top and the other one at the place. */
        private boolean merge(World world, Row above, Row below) {
            top.clear();
            top.addPart(above, 0, place);
            int i = place;
            int j = 0;
            for (int turn = 0; turn < LEFT_ROOM && i < above.length && j < below.length; turn++) {
                if (above.symbols[i] == below.symbols[j]) {
                    top.add(above.symbols[i]);
                    i++;
                    j++;
                } else if (above.symbols[i] == NONE) {
                    int end = world.endOf(below, j);
                    top.addPart(below, j, end);
                    i++;
                    j = end;
                } else if (below.symbols[j] == NONE) {
                    int end = world.endOf(above, i);
                    top.addPart(above, i, end);
                    i = end;
                    j++;
                } else {
                    return false;
                }
            }
            return top.addPart(above, i, above.length);
        }
    }

    /** How many trees there are of each kind; a kind is the set of nodes that match at the root, as bits. */
    private static final class Tally {
        long[] kinds = new long[16];
        long[] trees = new long[16];
        int size;

        void clear() {
            size = 0;
        }

        void add(long kind, long howManyMore) {
            for (int i = 0; i < size; i++) {
                if (kinds[i] == kind) {
                    trees[i] += howManyMore;
                    return;
                }
            }
            if (size == kinds.length) {
                kinds = Arrays.copyOf(kinds, 2 * size);
                trees = Arrays.copyOf(trees, 2 * size);
            }
            kinds[size] = kind;
            trees[size] = howManyMore;
            size++;
        }
    }

    /**
     * Counts the trees in which no forbidden tree matches anywhere. It never writes them out, as there may be
     * 43008 of six leaves: whether an act on top of trees completes a forbidden tree depends on their kinds alone.
     */
    private static final class Census {
        // A node is an act of a forbidden tree, with the bits of the nodes that it needs at its entries.
        private final int[] actOf = new int[MOST_NODES];
        private final long[][] needs = new long[MOST_ENTRIES][MOST_NODES];
        private int nodes;
        private long forbidden;
        private final long[] bitAt = new long[ROOM];
        private final Tally[] tallies = new Tally[MOST_LEAVES];

        Census() {
            for (int i = 0; i < MOST_LEAVES; i++) {
                tallies[i] = new Tally();
            }
        }

        void forbidLefts(World world) {
            clear();
            for (int i = 0; i < world.ruleCount; i++) {
                forbid(world, world.rules[i].left);
            }
        }

        void forbidAllButLefts(World world) {
            clear();
            for (int act = 0; act < world.acts; act++) {
                addNode(act, false);
            }
            for (int above = 0; above < world.acts; above++) {
                for (int below = 0; below < world.acts; below++) {
                    forbidUnlessLeft(world, above, 0, below);
                    forbidUnlessLeft(world, above, 1, below);
                }
            }
        }

        void run(World world, long[] totals) {
            startTallies();
            totals[1] = 1;
            for (int leaves = 2; leaves <= MOST_LEAVES; leaves++) {
                totals[leaves] = 0;
                for (int act = 0; act < world.acts; act++) {
                    totals[leaves] += treesUnder(act, world.entriesOf(act), leaves);
                }
            }
        }

        private void clear() {
            nodes = 0;
            forbidden = 0;
        }

        private int addNode(int act, boolean whole) {
            if (nodes >= MOST_NODES) {
                return NONE;
            }
            actOf[nodes] = act;
            for (int k = 0; k < MOST_ENTRIES; k++) {
                needs[k][nodes] = 0;
            }
            if (whole) {
                forbidden |= 1L << nodes;
            }
            nodes++;
            return nodes - 1;
        }

        private void forbid(World world, Row left) {
            for (int i = left.length - 1; i >= 0; i--) {
                bitAt[i] = 0;
                int act = left.symbols[i];
                int node = act == NONE ? NONE : addNode(act, i == 0);
                if (node != NONE) {
                    bitAt[i] = 1L << node;
                    linkEntries(world, left, i, node);
                }
            }
        }

        private void linkEntries(World world, Row left, int place, int node) {
            int below = place + 1;
            int entries = Math.min(world.entriesOf(left.symbols[place]), MOST_ENTRIES);
            for (int k = 0; k < entries && below < left.length; k++) {
                needs[k][node] = bitAt[below];
                below = world.endOf(left, below);
            }
        }

        private void forbidUnlessLeft(World world, int above, int entry, int below) {
            if (world.hasLeft(above, entry, below)) {
                return;
            }
            int node = addNode(above, true);
            if (node != NONE) {
                needs[entry][node] = 1L << below;
            }
        }

        /** Without leaves there is one thing: the third entry that an act of two entries lacks. */
        private void startTallies() {
            for (int i = 0; i < MOST_LEAVES; i++) {
                tallies[i].clear();
            }
            tallies[0].add(0, 1);
            tallies[1].add(0, 1);
        }

        private long treesUnder(int act, int entries, int leaves) {
            long found = 0;
            for (int first = 1; first < leaves; first++) {
                for (int second = 1; second <= leaves - first; second++) {
                    int third = leaves - first - second;
                    if ((third > 0) == (entries > 2)) {
                        found += join(act, leaves, tallies[first], tallies[second], tallies[third]);
                    }
                }
            }
            return found;
        }

        private long join(int act, int leaves, Tally first, Tally second, Tally third) {
            long found = 0;
            for (int i = 0; i < first.size; i++) {
                for (int j = 0; j < second.size; j++) {
                    for (int k = 0; k < third.size; k++) {
                        long kind = kindOf(act, first.kinds[i], second.kinds[j], third.kinds[k]);
                        if ((kind & forbidden) == 0) {
                            long trees = first.trees[i] * second.trees[j] * third.trees[k];
                            found += trees;
                            keep(leaves, kind, trees);
                        }
                    }
                }
            }
            return found;
        }

        /** Trees with the most leaves come under no act. */
        private void keep(int leaves, long kind, long trees) {
            if (leaves >= 0 && leaves < MOST_LEAVES) {
                tallies[leaves].add(kind, trees);
            }
        }

        private long kindOf(int act, long first, long second, long third) {
            long kind = 0;
            for (int node = 0; node < nodes; node++) {
                if (actOf[node] == act && (needs[0][node] & ~first) == 0
                        && (needs[1][node] & ~second) == 0 && (needs[2][node] & ~third) == 0) {
                    kind |= 1L << node;
                }
            }
            return kind;
        }
    }

    /** Turns a series about. */
    private static final class Series {
        final long[] turnedAbout = new long[MOST_LEAVES + 1];
        // powers[k][n]: the sum over all rows of k numbers, together n, of the products of the turned ones.
        private final long[][] powers = new long[MOST_LEAVES + 1][MOST_LEAVES + 1];

        /** The rows of two numbers or more that are together n hold only numbers below n: so each term can be found. */
        void turn(long[] series) {
            turnedAbout[1] = 1;
            powers[1][1] = 1;
            for (int n = 2; n <= MOST_LEAVES; n++) {
                long sum = 0;
                for (int k = 2; k <= n; k++) {
                    powers[k][n] = rowsOf(k, n);
                    sum += series[k] * powers[k][n];
                }
                turnedAbout[n] = -sum;
                powers[1][n] = -sum;
            }
        }

        private long rowsOf(int k, int n) {
            long sum = 0;
            for (int m = 1; m < n; m++) {
                sum += turnedAbout[m] * powers[k - 1][n - m];
            }
            return sum;
        }
    }
}
