/** Promise 13: count. */
public final class Promise13CountTest {
    public static void main(String[] args) {
        Check.run("Promise 13, count", Promise13CountTest.class);
    }

    @Sentence("How many nodes there are.")
    static void noNodesAtAll() {
        Check.due("new: count()", new SceneTree().count(), 0);
        Check.due("cleared: count()", Scene.cleared().made().count(), 0);
    }

    @Sentence("How many nodes there are.")
    static void fromOneTo48AndNoMore() {
        SceneTree tree = new SceneTree();
        for (int nodes = 1; nodes <= 48; nodes++) {
            tree.add(-1, nodes % 3);
            Check.due("count()", tree.count(), nodes);
        }
        tree.add(-1, 1);
        Check.due("after the 49th: count()", tree.count(), 48);
        tree.clear();
        Check.due("after clear: count()", tree.count(), 0);
        tree.add(-1, 1);
        Check.due("after clear and add: count()", tree.count(), 1);
    }

    @Sentence("How many nodes there are.")
    static void onlyAddAndClearChangeIt() {
        SceneTree tree = Scene.small().made();
        tree.hide(0, true);
        tree.hide(1, true);
        tree.hang(1, -1);
        tree.set(2, 2, 0, 0, 0);
        tree.camera(0, 1, 2, 3);
        tree.add(5, 1);
        tree.add(-1, 3);
        Check.due("count()", tree.count(), 5);
    }
}
