import java.util.function.LongSupplier;

/** What the tests share: answers compared with those due, worlds and rows written from texts, refusals watched. */
class Checks {
    static final int MAX = Integer.MAX_VALUE, MIN = Integer.MIN_VALUE;
    /** The first numbers that are no row on both sides, and the farthest ones. */
    static final int[] NO_ROWS = {-1, 10, MIN, MAX};
    private static int wrong = 0;
    private static int asked = 0;

    static void due(int promise, String what, long got, long want) {
        asked++;
        if (got != want) complain(promise, what, "answered " + got + ", due is " + want);
    }

    static void dueRow(int promise, String what, LeafTrees x, int row, String want) {
        asked++;
        String got = read(x, row);
        if (!got.equals(want)) complain(promise, what, "the row is " + got + ", due is " + want);
        // A shorter tree that came to a row leaves nothing of the longer one behind.
        if (x.at(row, want.length()) != -100) complain(promise, what, "there is a symbol behind the row");
    }

    /** The call is refused, and changes nothing. */
    static void refused(int promise, String what, LeafTrees x, long want, LongSupplier call) {
        String before = state(x);
        due(promise, what, call.getAsLong(), want);
        dueState(promise, what, x, before);
    }

    /** The call is answered, and changes nothing. */
    static void asks(int promise, String what, LeafTrees x, long want, LongSupplier call) {
        refused(promise, what, x, want, call);
    }

    /** Beside the digest, what the object keeps of acts and rules. */
    private static String state(LeafTrees x) {
        return x.digest() + " " + x.overlaps() + " " + x.closes() + " " + x.howMany(3) + " " + x.dual(3);
    }

    private static void dueState(int promise, String what, LeafTrees x, String before) {
        asked++;
        String after = state(x);
        if (!after.equals(before)) complain(promise, what, "the state was " + before + ", and is " + after);
    }

    private static void complain(int promise, String what, String how) {
        wrong++;
        System.out.println((promise == 0 ? "" : "promise " + promise + ", ") + what + ": " + how);
    }

    static void finish() {
        System.out.println(wrong == 0 ? asked + " answers are as due" : wrong + " answers are not as due");
        if (wrong != 0) System.exit(1);
    }

    // ---- worlds and rows

    static LeafTrees world(int... entries) {
        LeafTrees x = new LeafTrees();
        for (int e : entries) x.act(e);
        return x;
    }

    /** '.' is a leaf, a digit an act. */
    static void write(LeafTrees x, int row, String symbols) {
        x.empty(row);
        for (char c : symbols.toCharArray()) x.put(row, c == '.' ? -1 : c - '0');
    }

    static String read(LeafTrees x, int row) {
        StringBuilder symbols = new StringBuilder();
        int length = x.about(row, 0);
        for (int i = 0; i < length; i++) {
            int symbol = x.at(row, i);
            symbols.append(symbol == -1 ? "." : "" + symbol);
        }
        return symbols.toString();
    }

    static int addRule(LeafTrees x, String left, String right) {
        write(x, 9, left);
        write(x, 8, right);
        return x.rule(9, 8);
    }

    static int addNought(LeafTrees x, String left) {
        write(x, 9, left);
        return x.nought(9);
    }

    /** A chain of acts of two entries, each at the second entry of the one before. */
    static String chain(String acts) {
        StringBuilder symbols = new StringBuilder();
        for (char c : acts.toCharArray()) symbols.append(c).append('.');
        return symbols.append('.').toString();
    }

    /** Acts of two entries, each at the first entry of the one before. */
    static String comb(char act, int size) {
        return (act + "").repeat(size) + ".".repeat(size + 1);
    }

    /** Acts of three entries, each at the last entry of the one before. */
    static String chainOfThree(char act, int size) {
        return (act + "..").repeat(size) + ".";
    }

    /** A tree of 60 symbols, if act 0 has two entries and act 1 three: 29 acts, 31 leaves. */
    static String fullTree() {
        return "0.".repeat(28) + "1...";
    }
}
