import java.util.Random;

/** Many runs of calls, each answer and the state behind it compared with those of PlainModel. */
public final class AgainstModelTest {
    private static final int CALLS = 512;
    private static final int[] ODD = {-1, -2, 10, 11, 15, 60, 100, Integer.MAX_VALUE, Integer.MIN_VALUE};

    private final Random random;
    private final int run;
    private final LeafTrees real = new LeafTrees();
    private final PlainModel model = new PlainModel();
    private final StringBuilder told = new StringBuilder();
    private int calls;
    private boolean wrong;

    private AgainstModelTest(int run) {
        this.run = run;
        this.random = new Random(977L * run + 5);
    }

    public static void main(String[] args) {
        int runs = args.length > 0 ? Integer.parseInt(args[0]) : 400;
        int wrongRuns = 0;
        for (int run = 0; run < runs; run++) {
            AgainstModelTest test = new AgainstModelTest(run);
            if (run % 8 == 0) test.playWild();
            else if (run % 8 == 1) test.playDual();
            else if (run % 8 < 5) test.playRewriting();
            else test.play();
            if (run % 40 == 39) test.playCounts();
            if (test.wrong) wrongRuns++;
        }
        System.out.println(wrongRuns == 0 ? runs + " runs are as the model's" : wrongRuns + " runs are not");
        if (wrongRuns != 0) System.exit(1);
    }

    private void call(int op, int... args) {
        if (wrong || calls >= CALLS) return;
        int[] four = java.util.Arrays.copyOf(args, 4);
        long want = Calls.onModel(model, op, four);
        long got = Calls.onReal(real, op, four);
        calls++;
        told.append(Calls.NAMES[op]).append(java.util.Arrays.toString(args)).append(" ");
        if (got != want) complain("answered " + got + ", due is " + want);
        else if (real.digest() != model.digest()) complain("left another state than is due");
    }

    private void complain(String what) {
        wrong = true;
        System.out.println("run " + run + ": the last of these calls " + what + ": " + told);
    }

    private int below(int bound) {
        return random.nextInt(bound);
    }

    private int oddOr(int usual) {
        return below(25) == 0 ? ODD[below(ODD.length)] : usual;
    }

    private void putTree(int row, int size) {
        call(2, row);
        PlainModel.Tree tree = randomTree(size);
        if (tree.symbols() > 60) return;
        for (int symbol : tree.written()) call(1, row, symbol);
    }

    private PlainModel.Tree randomTree(int size) {
        PlainModel.Tree tree = PlainModel.LEAF;
        int style = below(3);
        for (int i = 0; i < size && !model.acts.isEmpty(); i++) {
            int leaf = style == 0 ? 0 : style == 1 ? tree.leaves() - 1 : below(tree.leaves());
            tree = PlainModel.replaced(tree, placeOfLeaf(tree, leaf), randomAct());
        }
        return tree;
    }

    private PlainModel.Tree randomAct() {
        int act = below(model.acts.size());
        return new PlainModel.Tree(act, java.util.Collections.nCopies(model.acts.get(act), PlainModel.LEAF));
    }

    private static int placeOfLeaf(PlainModel.Tree tree, int leaf) {
        int before = 0;
        java.util.List<Integer> row = tree.written();
        for (int i = 0; i < row.size(); i++) {
            if (row.get(i) == -1 && before++ == leaf) return i;
        }
        return 0;
    }

    /** Trees, rules and questions that mostly make sense. */
    private void play() {
        int acts = 1 + below(3);
        for (int i = 0; i < acts; i++) call(0, 2 + below(2));
        int most = 60 + below(CALLS - 60);
        for (int guard = 0; guard < 2000 && calls < most && !wrong; guard++) move();
    }

    private void move() {
        int row = oddOr(below(10));
        switch (below(22)) {
            case 0: if (below(6) == 0) call(0, 1 + below(4)); break;
            case 1: case 2: putTree(below(10), below(5)); break;
            case 3: putTree(below(10), 5 + below(22)); break;
            case 4: call(3, row, oddOr(below(12))); break;
            case 5: call(4, row, oddOr(below(5))); break;
            case 6: call(5, below(10), oddOr(below(4)), below(10), row); break;
            case 7: call(6, row, below(10)); break;
            case 8: case 9: addRule(); break;
            case 10: putTree(8, 1 + below(4)); call(8, 8); break;
            case 11: if (below(5) == 0) call(9); break;
            case 12: call(10, oddOr(below(8)), below(2), row); break;
            case 13: call(11, oddOr(below(8)), row); break;
            case 14: call(12, row); break;
            case 15: case 16: call(13, row); break;
            case 17: call(14, oddOr(1 + below(5))); break;
            case 18: call(15); call(16, oddOr(below(1 + model.overlaps())), row); break;
            case 19: call(17); break;
            case 20: call(18, oddOr(1 + below(4))); break;
            default: call(19, oddOr(1 + below(5))); call(20, oddOr(below(4))); call(21); break;
        }
    }

    /** Left and right trees with as many leaves, or nearly. */
    private void addRule() {
        putTree(6, 1 + below(4));
        for (int guard = 0; guard < 10; guard++) {
            putTree(7, 1 + below(4));
            if (model.treeOf(6) == null || model.treeOf(7) == null) break;
            if (model.about(6, 2) == model.about(7, 2) || below(8) == 0) break;
        }
        call(7, 6, 7);
    }

    /** Any numbers in any call. */
    private void playWild() {
        for (int i = 0; i < CALLS; i++) {
            int op = below(22);
            if (op == 14 || op >= 18) call(op, below(8) == 0 ? ODD[below(ODD.length)] : below(5));
            else call(op, wild(), wild(), wild(), wild());
        }
    }

    private int wild() {
        return below(6) == 0 ? ODD[below(ODD.length)] : below(4) - 1;
    }

    /** Rules first, then trees grown by grafts, which cost fewer calls than puts, and gone down. */
    private void playRewriting() {
        int acts = 2 + below(2);
        for (int i = 0; i < acts; i++) {
            call(0, 2 + below(2));
            for (int k = -1; k < model.acts.get(i); k++) call(1, i, k < 0 ? i : -1);
        }
        int rules = 1 + below(3);
        for (int i = 0; i < rules; i++) addRule();
        if (below(3) == 0) call(8, growTree(6, 2 + below(3), acts));
        for (int round = 0; round < 6 && !wrong; round++) {
            growTree(8, 3 + below(24), acts);
            for (int i = 0; i < model.rules.size(); i++) call(11, i, 8);
            for (int i = below(4); i > 0; i--) call(12, 8);
            call(13, 8);
            if (model.treeOf(8) != null) call(4, 8, 4);
            for (int i = below(3); i > 0; i--) call(12, 8);
        }
        call(15);
        call(17);
    }

    private int growTree(int row, int size, int acts) {
        call(2, row);
        call(1, row, -1);
        int style = below(3);
        for (int i = 0; i < size; i++) {
            int leaves = Math.max(1, model.about(row, 2));
            call(5, row, style == 0 ? 0 : style == 1 ? leaves - 1 : below(leaves), below(acts), row);
        }
        return row;
    }

    /** The counts of the most leaves, which take the model long. */
    private void playCounts() {
        calls = 0;
        call(9);
        for (int i = 0; i < 4; i++) call(0, below(4) == 0 ? 3 : 2);
        for (int i = 0; i < 8; i++) {
            putTree(9, 3 + below(2));
            call(8, 9);
        }
        call(14, 6);
        call(18, 5);
    }

    /** Acts of two entries and rules to nothing. */
    private void playDual() {
        int acts = 1 + below(4);
        for (int i = 0; i < acts; i++) call(0, 2);
        for (int round = 0; round < 3; round++) {
            int rules = below(9);
            for (int i = 0; i < rules; i++) {
                putTree(0, 2);
                call(8, 0);
            }
            int most = acts > 2 ? 4 : 6;
            for (int n = 1; n <= most; n++) {
                call(14, n);
                call(18, n);
                call(19, n);
            }
            call(17);
            call(9);
        }
    }
}
