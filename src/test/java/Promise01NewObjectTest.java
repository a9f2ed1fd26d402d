/** Promise 1: a new object has no nodes, and a camera at 0. */
public final class Promise01NewObjectTest {
    private static final int[] ANY = {0, -1, 1, 47, 48, Due.LEAST, Due.GREATEST};

    public static void main(String[] args) {
        Check.run("Promise 1, a new object", Promise01NewObjectTest.class);
    }

    @Sentence("`NONE = -1`: Nothing there.")
    static void noneIsMinus1() {
        Check.due("NONE", SceneTree.NONE, -1);
    }

    @Sentence("No nodes")
    static void noNodesAreCountedSeenOrDrawn() {
        Check.due("count()", new SceneTree().count(), 0);
        Due.order("new:", new SceneTree());
    }

    @Sentence("No nodes")
    static void noNodesCanBeAskedAbout() {
        for (int node : ANY) {
            Refusal.byThrowing("about(" + node + ", 0)", Scene.fresh(), tree -> tree.about(node, 0));
            Refusal.byThrowing("world(" + node + ", 0, 0)", Scene.fresh(), tree -> tree.world(node, 0, 0));
            Refusal.byThrowing("model(" + node + ", 0, 0)", Scene.fresh(), tree -> tree.model(node, 0, 0));
        }
    }

    @Sentence("No nodes")
    static void noNodesCanBeChanged() {
        for (int node : ANY) {
            Refusal.byFalse("set(" + node + ", ..)", Scene.fresh(), tree -> tree.set(node, 0, 1, 2, 3));
            Refusal.byFalse("hang(" + node + ", -1)", Scene.fresh(), tree -> tree.hang(node, -1));
            Refusal.byFalse("hide(" + node + ", true)", Scene.fresh(), tree -> tree.hide(node, true));
        }
    }

    @Sentence("No nodes")
    static void noNodeIsAParent() {
        Refusal.byNone("add(0, 1)", Scene.fresh(), tree -> tree.add(0, 1));
        Check.due("add(-1, 1)", new SceneTree().add(-1, 1), 0);
    }

    @Sentence("the camera's numbers are 0")
    static void modelIsWorldAtFirst() {
        SceneTree tree = new SceneTree();
        tree.add(-1, 1);
        tree.set(0, 0, 100000, -200001, 300003);
        tree.set(0, 1, 137, -911, 2503);
        int[] world = new int[12];
        for (int cell = 0; cell < 12; cell++) {
            world[cell] = tree.world(0, cell / 4, cell % 4);
        }
        Due.model("new camera:", tree, 0, world);
        tree.camera(0, 0, 0, 0);
        tree.camera(1, 0, 0, 0);
        Due.model("camera at 0:", tree, 0, world);
    }

    @Sentence("All memory is the tree's own")
    static void twoObjectsShareNothing() {
        SceneTree one = new SceneTree();
        SceneTree other = new SceneTree();
        one.add(-1, 1);
        Check.due("count() of the other", other.count(), 0);
        other.add(-1, 2);
        one.set(0, 0, 1, 2, 3);
        one.set(0, 1, 0, 1024, 0);
        one.hide(0, true);
        one.camera(0, 4, 5, 6);
        one.camera(1, 1024, 0, 0);
        one.world(0, 0, 0);
        Due.about("the other:", other, 0, -1, 2, 0, 0, 0, 0, 0, 0, 0, Due.ONE, Due.ONE, Due.ONE);
        Due.model("the other:", other, 0, Due.ONE, 0, 0, 0, 0, Due.ONE, 0, 0, 0, 0, Due.ONE, 0);
        Due.order("the other:", other, 0);
    }
}
