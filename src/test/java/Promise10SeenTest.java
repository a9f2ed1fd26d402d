/** Promise 10: seen. */
public final class Promise10SeenTest {
    public static void main(String[] args) {
        Check.run("Promise 10, seen", Promise10SeenTest.class);
    }

    @Sentence("How many nodes are seen.")
    static void noNodesAtAll() {
        Check.due("new: seen()", new SceneTree().seen(), 0);
        Check.due("cleared: seen()", Scene.cleared().made().seen(), 0);
    }

    @Sentence("How many nodes are seen.")
    static void fromOneTo48() {
        SceneTree tree = new SceneTree();
        for (int node = 0; node < 48; node++) {
            tree.add(node - 1, 1 + node % 2);
            Check.due("seen() of " + (node + 1), tree.seen(), node + 1);
        }
        tree.add(-1, 1);
        Check.due("seen() after the 49th", tree.seen(), 48);
    }

    @Sentence("A node is SEEN if its kind is not 0")
    static void kind0IsNotSeen() {
        Check.due("48 of kind 0", Scene.chain(48, 0).seen(), 0);
        Check.due("48 of kind 1", Scene.chain(48, 1).seen(), 48);
        Check.due("48 of kind 2", Scene.chain(48, 2).seen(), 48);
    }

    @Sentence("A node is SEEN if its kind is not 0")
    static void kind0DoesNotHideThoseBelow() {
        SceneTree tree = Scene.chain(3, 0);
        tree.add(2, 1);
        Check.due("seen()", tree.seen(), 1);
        Due.order("below three of kind 0:", tree, 3);
    }

    @Sentence("neither it nor one above it is hidden")
    static void aHiddenNodeHidesThoseBelow() {
        for (int hidden : new int[] {0, 1, 24, 46, 47}) {
            SceneTree tree = Scene.chain(48, 1);
            tree.hide(hidden, true);
            Check.due(hidden + " of a chain hidden: seen()", tree.seen(), hidden);
            tree.hide(hidden, false);
            Check.due(hidden + " of a chain shown: seen()", tree.seen(), 48);
        }
    }

    @Sentence("neither it nor one above it is hidden")
    static void aHiddenNodeOfKind0HidesThoseBelowToo() {
        SceneTree tree = new SceneTree();
        tree.add(-1, 0);
        tree.add(0, 1);
        tree.add(1, 2);
        tree.add(-1, 1);
        tree.hide(0, true);
        Due.order("below a hidden one of kind 0:", tree, 3);
    }

    @Sentence("neither it nor one above it is hidden")
    static void twoHiddenAboveOneAnother() {
        SceneTree tree = Scene.chain(4, 1);
        tree.hide(1, true);
        tree.hide(2, true);
        Check.due("two hidden: seen()", tree.seen(), 1);
        tree.hide(1, false);
        Check.due("the lower one still hidden: seen()", tree.seen(), 2);
        tree.hide(1, true);
        tree.hide(2, false);
        Check.due("the upper one still hidden: seen()", tree.seen(), 1);
    }

    @Sentence("neither it nor one above it is hidden")
    static void oneThatIsHungElsewhereIsSeenAgain() {
        SceneTree tree = Scene.chain(4, 1);
        tree.hide(1, true);
        Check.due("seen()", tree.seen(), 1);
        tree.hang(2, 0);
        Check.due("hung above the hidden one: seen()", tree.seen(), 3);
        tree.hang(3, 1);
        Check.due("hung at the hidden one: seen()", tree.seen(), 2);
        tree.hang(1, -1);
        Check.due("the hidden one hung elsewhere: seen()", tree.seen(), 2);
    }

    @Sentence("neither it nor one above it is hidden")
    static void thoseBesideAHiddenOneAreSeen() {
        SceneTree tree = new SceneTree();
        tree.add(-1, 1);
        tree.add(0, 1);
        tree.add(0, 1);
        tree.hide(1, true);
        Due.order("beside:", tree, 0, 2);
    }
}
