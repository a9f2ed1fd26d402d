/** Promise 5: hang. */
public final class Promise05HangTest {
    public static void main(String[] args) {
        Check.run("Promise 5, hang", Promise05HangTest.class);
    }

    @Sentence("A node's parent is another one before it, or none (-1): true")
    static void theNodeAndAllBelowFollow() {
        SceneTree tree = Scene.chain(3, 1);
        tree.set(0, 0, 100, 0, 0);
        tree.set(1, 0, 10, 0, 0);
        tree.set(2, 0, 1, 0, 0);
        Check.due("hung at 1", tree.world(2, 0, 3), 111);
        Check.due("hang at 0", tree.hang(2, 0), true);
        Check.due("hung at 0", tree.world(2, 0, 3), 101);
        Check.due("hung at 0: parent", tree.about(2, 0), 0);
        Check.due("hang at none", tree.hang(2, -1), true);
        Check.due("hung at none", tree.world(2, 0, 3), 1);
        Check.due("hung at none: parent", tree.about(2, 0), -1);
        Check.due("hang at 1 again", tree.hang(2, 1), true);
        Check.due("hang the one above at none", tree.hang(1, -1), true);
        Check.due("hung below", tree.world(2, 0, 3), 11);
        Due.about("hang leaves the rest:", tree, 2, 1, 1, 0, 1, 0, 0, 0, 0, 0, Due.ONE, Due.ONE, Due.ONE);
    }

    @Sentence("A node's parent is another one before it")
    static void theLastParentsWithin() {
        for (int node = 0; node < Scene.SMALL; node++) {
            for (int parent = -1; parent < node; parent++) {
                SceneTree tree = Scene.small().made();
                Check.due("hang(" + node + ", " + parent + ")", tree.hang(node, parent), true);
                Check.due("parent of " + node, tree.about(node, 0), parent);
            }
        }
        SceneTree full = Scene.full().made();
        Check.due("hang(47, 46)", full.hang(47, 46), true);
        Check.due("parent of 47", full.about(47, 0), 46);
        Check.due("hang(47, -1)", full.hang(47, -1), true);
        Check.due("parent of 47", full.about(47, 0), -1);
    }

    @Sentence("A node's parent is another one before it")
    static void aNodeIsNotItsOwnParent() {
        for (int node = 0; node < Scene.SMALL; node++) {
            int own = node;
            Refusal.byFalse("hang(" + own + ", " + own + ")", Scene.small(), tree -> tree.hang(own, own));
        }
        Refusal.byFalse("hang(47, 47)", Scene.full(), tree -> tree.hang(47, 47));
    }

    @Sentence("or that is none of these")
    static void aLaterNodeIsNoParent() {
        for (int node = 0; node < Scene.SMALL; node++) {
            for (int parent = node + 1; parent <= Scene.SMALL; parent++) {
                int own = node;
                int later = parent;
                Refusal.byFalse("hang(" + own + ", " + later + ")", Scene.small(), tree -> tree.hang(own, later));
            }
        }
        Refusal.byFalse("hang(0, 47)", Scene.full(), tree -> tree.hang(0, 47));
        Refusal.byFalse("hang(46, 47)", Scene.full(), tree -> tree.hang(46, 47));
        Refusal.byFalse("hang(47, 48)", Scene.full(), tree -> tree.hang(47, 48));
    }

    @Sentence("or that is none of these")
    static void theFirstParentsOutside() {
        for (int parent : new int[] {-2, 5, 48, Due.LEAST, Due.GREATEST}) {
            for (int node : new int[] {0, 1, 4}) {
                Refusal.byFalse("hang(" + node + ", " + parent + ")", Scene.small(), tree -> tree.hang(node, parent));
            }
        }
    }

    @Sentence("or none (-1): true")
    static void noneIsAParentOfEveryNode() {
        for (int node = 0; node < Scene.SMALL; node++) {
            SceneTree tree = Scene.small().made();
            Check.due("hang(" + node + ", -1)", tree.hang(node, -1), true);
            Check.due("again", tree.hang(node, -1), true);
            Check.due("parent of " + node, tree.about(node, 0), -1);
        }
    }

    /** "Another one" is read as another one than the node, so the parent that it has is one too. */
    @Sentence("A node's parent is another one before it")
    static void theParentThatItHasIsTaken() {
        SceneTree tree = Scene.small().made();
        Check.due("hang(1, 0)", tree.hang(1, 0), true);
        Check.due("parent of 1", tree.about(1, 0), 0);
    }

    @Sentence("false if there is no such node")
    static void theFirstNodesOutside() {
        for (int node : Due.NO_NODES_OF_SMALL) {
            Refusal.byFalse("hang(" + node + ", -1)", Scene.small(), tree -> tree.hang(node, -1));
            Refusal.byFalse("hang(" + node + ", 0)", Scene.small(), tree -> tree.hang(node, 0));
        }
        Refusal.byFalse("hang(48, -1) of 48", Scene.full(), tree -> tree.hang(48, -1));
        Refusal.byFalse("hang(48, 47) of 48", Scene.full(), tree -> tree.hang(48, 47));
    }
}
