import com.sun.management.ThreadMXBean;
import java.lang.management.ManagementFactory;

/** After the constructor a call that does not throw makes nothing. */
public final class RoomTest {
    private static final int ROUNDS = 200;
    /** Half of one smallest object a round, and above what the measuring itself may make. */
    private static final long MOST_BYTES = 16L * ROUNDS / 2;

    private static long kept = 0;

    public static void main(String[] args) {
        Check.run("Terms", RoomTest.class);
    }

    @Sentence("All memory is the tree's own, made once.")
    static void noCallMakesMore() {
        java.lang.management.ThreadMXBean bean = ManagementFactory.getThreadMXBean();
        if (bean instanceof ThreadMXBean counter && counter.isThreadAllocatedMemorySupported()) {
            measure(counter);
        } else {
            System.out.println("RoomTest: this machine does not count what a thread makes");
        }
    }

    private static void measure(ThreadMXBean counter) {
        counter.setThreadAllocatedMemoryEnabled(true);
        SceneTree[] trees = new SceneTree[ROUNDS];
        for (int round = 0; round < ROUNDS; round++) {
            trees[round] = new SceneTree();
        }
        allCalls(trees[0]);
        counter.getCurrentThreadAllocatedBytes();
        long before = counter.getCurrentThreadAllocatedBytes();
        for (SceneTree tree : trees) {
            allCalls(tree);
        }
        long made = counter.getCurrentThreadAllocatedBytes() - before;
        Check.due("the calls made " + made + " bytes, more than " + MOST_BYTES, made > MOST_BYTES, false);
    }

    private static void allCalls(SceneTree tree) {
        tree.clear();
        for (int node = 0; node < 49; node++) {
            kept += tree.add(node - 1, node % 3);
            tree.set(node, node % 3, node, -node, 1000 * node);
        }
        tree.hang(5, 2);
        tree.hide(40, true);
        tree.camera(0, 1, 2, 3);
        tree.camera(1, 4, 5, 6);
        kept += tree.world(47, 0, 0) + tree.model(47, 2, 3) + tree.about(3, 4);
        kept += tree.seen() + tree.inOrder(7) + tree.inOrder(-1) + tree.count();
    }
}
