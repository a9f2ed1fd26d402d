/** Promise 3: clear. */
public final class Promise03ClearTest {
    public static void main(String[] args) {
        Check.run("Promise 3, clear", Promise03ClearTest.class);
    }

    @Sentence("There are no nodes")
    static void oldNodesAreGone() {
        SceneTree tree = Scene.cleared().made();
        Check.due("count()", tree.count(), 0);
        Due.order("cleared:", tree);
        for (int node = 0; node < Scene.SMALL; node++) {
            int old = node;
            Refusal.byThrowing("about(" + old + ", 0)", Scene.cleared(), at -> at.about(old, 0));
            Refusal.byThrowing("world(" + old + ", 0, 0)", Scene.cleared(), at -> at.world(old, 0, 0));
            Refusal.byThrowing("model(" + old + ", 0, 0)", Scene.cleared(), at -> at.model(old, 0, 0));
            Refusal.byFalse("set(" + old + ", ..)", Scene.cleared(), at -> at.set(old, 0, 1, 2, 3));
            Refusal.byFalse("hang(" + old + ", -1)", Scene.cleared(), at -> at.hang(old, -1));
            Refusal.byFalse("hide(" + old + ", false)", Scene.cleared(), at -> at.hide(old, false));
        }
    }

    @Sentence("There are no nodes")
    static void noNodesCanBeClearedToo() {
        SceneTree tree = new SceneTree();
        tree.clear();
        tree.clear();
        Check.due("count()", tree.count(), 0);
        Due.order("new and cleared:", tree);
        Check.due("add", tree.add(-1, 1), 0);
        tree.clear();
        tree.clear();
        Check.due("cleared twice: count()", tree.count(), 0);
    }

    @Sentence("There are no nodes")
    static void after48ThereIsRoomFor48() {
        SceneTree tree = Scene.full().made();
        tree.clear();
        Check.due("count()", tree.count(), 0);
        for (int node = 0; node < 48; node++) {
            Check.due("add number " + node, tree.add(node - 1, 1), node);
        }
        Check.due("the 49th", tree.add(-1, 1), SceneTree.NONE);
        Check.due("seen()", tree.seen(), 48);
        Due.world("the last:", tree, 47, Due.ONE, 0, 0, 0, 0, Due.ONE, 0, 0, 0, 0, Due.ONE, 0);
    }

    @Sentence("There are no nodes")
    static void newNodesHaveNothingOfTheOldOnes() {
        SceneTree tree = new SceneTree();
        for (int node = 0; node < 3; node++) {
            tree.add(node - 1, 1);
            tree.set(node, 0, 5, 6, 7);
            tree.set(node, 1, 8, 9, 10);
            tree.set(node, 2, 11, 12, 13);
            tree.hide(node, true);
            tree.world(node, 0, 0);
        }
        tree.clear();
        tree.add(-1, 2);
        tree.add(-1, 1);
        for (int node = 0; node < 2; node++) {
            Due.about("new:", tree, node, -1, 2 - node, 0, 0, 0, 0, 0, 0, 0, Due.ONE, Due.ONE, Due.ONE);
            Due.world("new:", tree, node, Due.ONE, 0, 0, 0, 0, Due.ONE, 0, 0, 0, 0, Due.ONE, 0);
        }
        Due.order("new:", tree, 1, 0);
    }

    @Sentence("the camera stays")
    static void theCameraStays() {
        SceneTree tree = new SceneTree();
        tree.add(-1, 1);
        tree.camera(0, 11, 22, 33);
        tree.camera(1, 0, 2048, 0);
        tree.clear();
        tree.add(-1, 1);
        Due.model("cleared:", tree, 0, -Due.ONE, 0, 0, 11, 0, Due.ONE, 0, -22, 0, 0, -Due.ONE, 33);
        tree.camera(1, 0, 0, 0);
        Due.model("cleared, turned back:", tree, 0, Due.ONE, 0, 0, -11, 0, Due.ONE, 0, -22, 0, 0, Due.ONE, -33);
    }
}
