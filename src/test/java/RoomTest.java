import java.lang.management.ManagementFactory;

/** What a run makes stays small: all calls of one run share a room. */
public final class RoomTest {
    // Far below the room: a fresh object, and then hardly anything for 512 of the dearest calls.
    private static final long MOST_BYTES_NEW = 40_000;
    private static final long MOST_BYTES_RUN = 40_000;

    private static final com.sun.management.ThreadMXBean THREADS =
        (com.sun.management.ThreadMXBean) ManagementFactory.getThreadMXBean();

    public static void main(String[] args) {
        dearRun(new LeafTrees());
        long before = THREADS.getCurrentThreadAllocatedBytes();
        LeafTrees x = new LeafTrees();
        long made = THREADS.getCurrentThreadAllocatedBytes();
        dearRun(x);
        long after = THREADS.getCurrentThreadAllocatedBytes();
        System.out.println("a new object: " + (made - before) + " bytes, a run: " + (after - made) + " bytes");
        if (made - before > MOST_BYTES_NEW || after - made > MOST_BYTES_RUN) System.exit(1);
    }

    /** Rules change before each of the dear calls, so that nothing kept can help. */
    private static void dearRun(LeafTrees x) {
        int calls = 0;
        for (int i = 0; i < 4; i++) calls += x.act(2) < 0 ? 0 : 1;
        for (int row = 0; row < 10; row++) calls += writeTree(x, row);
        for (int i = 0; calls < 500; i++) {
            if (i % 9 == 8) x.unrule();
            if (i % 2 == 0) x.nought(i % 10);
            else x.rule(i % 10, i * 7 % 10);
            x.howMany(6);
            x.turned(6);
            x.dual(6);
            x.closes();
            x.overlaps();
            x.overlap(200, 9);
            x.digest();
            calls += 9;
        }
    }

    /** Four acts, five leaves. */
    private static int writeTree(LeafTrees x, int row) {
        for (int i = 0; i < 4; i++) {
            x.put(row, (row * 7 + i * (row + 3)) % 4);
            if (row % 3 == 1) x.put(row, -1);
        }
        while (x.about(row, 0) < 9) x.put(row, -1);
        return 9;
    }
}
