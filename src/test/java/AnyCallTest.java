import java.util.Arrays;

/**
 * No call throws or fails to end, for any arguments in any state (rule 7 of LANGUAGE.md): each call with the edges of
 * all bounds and of int, in worlds that are new, ordinary and full, compared with PlainModel; and an object's last call.
 */
public final class AnyCallTest extends Checks {
    private static final int ACT = 0, PUT = 1, GRAFT = 5, RULE = 7, NOUGHT = 8, SIDE = 10, LAST = 21;
    private static final int MOST_CALLS = 512;
    private static final int[] EDGES = {MIN, MIN + 1, -101, -100, -10, -5, -4, -3, -2, -1, 0, 1, 2, 3, 4, 5, 6, 7, 8, 9,
        10, 11, 29, 30, 31, 59, 60, 61, 200, 201, MAX - 1, MAX};
    // For calls that take three or four numbers.
    private static final int[] FEW = {MIN, -1, 0, 1, 2, 8, 9, 10, 30, 31, MAX};

    private interface World {
        void build(AnyCallTest pair);
    }

    private LeafTrees real;
    private PlainModel model;
    private int calls;

    public static void main(String[] args) {
        World[] worlds = {w -> { }, AnyCallTest::ordinary, AnyCallTest::full, AnyCallTest::fullOfNoTrees,
            AnyCallTest::withADual, AnyCallTest::neverNormal};
        for (World world : worlds) {
            for (int op = 0; op <= LAST; op++) new AnyCallTest().sweep(world, op);
        }
        lastCallIsAnswered();
        laterCallsEnd();
        finish();
    }

    // ---- worlds

    private static void ordinary(AnyCallTest w) {
        w.both(ACT, 2);
        w.both(ACT, 3);
        w.tree(1, ".");
        w.tree(2, "00...");
        w.tree(3, "0.");
        w.tree(4, "0.0..");
        w.tree(9, "1.0...");
        w.both(RULE, 2, 4);
        w.both(NOUGHT, 9);
    }

    /** Four acts, eight rules, ten full rows. */
    private static void full(AnyCallTest w) {
        for (int entries : new int[] {2, 3, 2, 3}) w.both(ACT, entries);
        w.tree(2, "0.0..");
        w.tree(3, "00...");
        w.tree(4, "2.3...");
        w.tree(5, comb('0', 4));
        for (int i = 0; i < 4; i++) {
            w.both(RULE, 2, 3);
            w.both(NOUGHT, 4 + i % 2);
        }
        w.tree(0, fullTree());
        w.both(PUT, 1, -1);
        for (int to = 9; to > 0; to--) w.both(GRAFT, 1, 0, 0, to);
    }

    private static void fullOfNoTrees(AnyCallTest w) {
        for (int entries : new int[] {3, 3, 2, 2}) w.both(ACT, entries);
        w.tree(2, chainOfThree('0', 4));
        for (int i = 0; i < 8; i++) w.both(NOUGHT, 2);
        w.tree(0, "0".repeat(60));
        w.tree(1, ".".repeat(60));
        w.tree(8, "2.".repeat(30));
        w.tree(9, "3".repeat(30) + ".".repeat(30));
    }

    private static void withADual(AnyCallTest w) {
        w.both(ACT, 2);
        w.both(ACT, 2);
        w.tree(0, "01...");
        w.tree(1, "1.1..");
        w.tree(2, "11...");
        for (int i = 0; i < 8; i++) w.both(NOUGHT, i % 3);
    }

    /** Rules that go on for ever, and rules that make rows longer. */
    private static void neverNormal(AnyCallTest w) {
        for (int entries : new int[] {2, 3, 2}) w.both(ACT, entries);
        w.tree(0, "1...");
        w.tree(1, "00...");
        w.tree(2, "2..");
        w.tree(3, "0.".repeat(28) + "1...");
        w.tree(4, "0.0..");
        w.both(RULE, 0, 1);
        w.both(RULE, 2, 2);
        w.both(RULE, 4, 0);
        w.both(NOUGHT, 2);
        w.both(NOUGHT, 1);
    }

    private void tree(int row, String symbols) {
        both(2, row);
        for (char c : symbols.toCharArray()) both(PUT, row, c == '.' ? -1 : c - '0');
    }

    private long both(int op, int... numbers) {
        int[] four = Arrays.copyOf(numbers, 4);
        long want = Calls.onModel(model, op, four);
        long got = Calls.onReal(real, op, four);
        calls++;
        due(0, Calls.NAMES[op] + Arrays.toString(numbers), got, want);
        return got;
    }

    private void rebuild(World world) {
        real = new LeafTrees();
        model = new PlainModel();
        calls = 0;
        world.build(this);
    }

    // ---- all edges in all places

    private void sweep(World world, int op) {
        rebuild(world);
        int[] edges = op == GRAFT || op == SIDE ? FEW : EDGES;
        int combinations = (int) Math.pow(edges.length, Calls.TAKES[op]);
        for (int i = 0; i < combinations; i++) {
            int[] numbers = new int[Calls.TAKES[op]];
            for (int k = 0, rest = i; k < numbers.length; k++, rest /= edges.length) numbers[k] = edges[rest % edges.length];
            ask(world, op, numbers);
        }
    }

    /** With the state before and after; each call begins in the world as it was built. */
    private void ask(World world, int op, int[] numbers) {
        long before = real.digest();
        long answer = both(op, numbers);
        long after = real.digest();
        calls += 2;
        String what = Calls.NAMES[op] + Arrays.toString(numbers);
        due(0, what + ", the state", after, model.digest());
        if (answer <= -2 && answer >= -5) due(0, what + ", refused", after, before);
        if (after != before || calls > MOST_CALLS - 3) rebuild(world);
    }

    // ---- "An object is used for at most 512 calls after it has been made"

    private static void lastCallIsAnswered() {
        LeafTrees x = world(2);
        for (int call = 1; call < 511; call++) x.put(call % 10, 0);
        due(0, "call 512", x.about(0, 0), 51);
        LeafTrees y = world(2);
        write(y, 0, "00...");
        y.nought(0);
        for (int call = 8; call < 510; call++) y.put(call % 9 + 1, -1);
        due(0, "call 511", y.closes(), -1);
        due(0, "call 512", y.howMany(6), 1);
    }

    /** What they answer is free, but they do not throw, and end. */
    private static void laterCallsEnd() {
        LeafTrees x = world(2, 3, 2, 2);
        for (int i = 0; i < 20_000; i++) {
            int op = i * 7 % (LAST + 1);
            Calls.onReal(x, op, new int[] {i % 11, i / 3 % 12 - 1, i / 5 % 11, i / 7 % 11});
        }
        due(0, "it still has its acts", x.count(0), 4);
    }
}
