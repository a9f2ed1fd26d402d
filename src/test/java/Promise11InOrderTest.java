/** Promise 11: inOrder. */
public final class Promise11InOrderTest {
    public static void main(String[] args) {
        Check.run("Promise 11, inOrder", Promise11InOrderTest.class);
    }

    /** Nodes without parents, at these places on the third axis. */
    private static SceneTree row(int[] kinds, int[] places) {
        SceneTree tree = new SceneTree();
        for (int node = 0; node < kinds.length; node++) {
            tree.add(-1, kinds[node]);
            tree.set(node, 0, -places[node], 7, places[node]);
        }
        return tree;
    }

    @Sentence("THE ORDER: nodes that are seen and solid, by MODEL at 2, 3, the least first; "
        + "then those that are clear, the greatest first")
    static void solidOnesThenClearOnes() {
        SceneTree tree = row(new int[] {2, 1, 0, 2, 1, 2, 1}, new int[] {5, 9, 1, 8, -4, -6, 3});
        Due.order("order:", tree, 4, 6, 1, 3, 0, 5);
        tree.camera(1, 0, 2048, 0);
        Due.order("from behind:", tree, 1, 6, 4, 5, 0, 3);
        tree.camera(1, 0, 0, 0);
        tree.camera(0, 0, 0, 1000);
        Due.order("from afar:", tree, 4, 6, 1, 3, 0, 5);
    }

    @Sentence("THE ORDER: nodes that are seen and solid, by MODEL at 2, 3, the least first; "
        + "then those that are clear, the greatest first")
    static void aClearOneIsNeverBeforeASolidOne() {
        Due.order("the solid one further:", row(new int[] {2, 1}, new int[] {-9, 9}), 1, 0);
        Due.order("the solid one nearer:", row(new int[] {2, 1}, new int[] {9, -9}), 1, 0);
        Due.order("both at one place:", row(new int[] {2, 1}, new int[] {3, 3}), 1, 0);
    }

    @Sentence("equal ones by their numbers")
    static void equalOnes() {
        SceneTree tree = new SceneTree();
        for (int node = 0; node < 8; node++) {
            tree.add(-1, 1 + node % 2);
        }
        Due.order("all equal:", tree, 0, 2, 4, 6, 1, 3, 5, 7);
        tree.set(4, 0, 0, 0, -1);
        tree.set(5, 0, 0, 0, 1);
        Due.order("two not equal:", tree, 4, 0, 2, 6, 5, 1, 3, 7);
        tree.set(4, 0, 0, 0, 1);
        tree.set(5, 0, 0, 0, -1);
        Due.order("two not equal, the other way:", tree, 0, 2, 6, 4, 1, 3, 7, 5);
    }

    @Sentence("equal ones by their numbers")
    static void equalOnesAmongOthers() {
        Due.order("solid:", row(new int[] {1, 1, 1, 1, 1, 1}, new int[] {2, 1, 2, 1, 2, 1}), 1, 3, 5, 0, 2, 4);
        Due.order("clear:", row(new int[] {2, 2, 2, 2, 2, 2}, new int[] {1, 2, 1, 2, 1, 2}), 1, 3, 5, 0, 2, 4);
    }

    @Sentence("equal ones by their numbers")
    static void fortyEightEqualOnes() {
        for (int kind = 1; kind < 3; kind++) {
            SceneTree tree = new SceneTree();
            int[] due = new int[48];
            for (int node = 0; node < 48; node++) {
                tree.add(-1, kind);
                due[node] = node;
            }
            Due.order("48 of kind " + kind + ":", tree, due);
        }
    }

    @Sentence("equal ones by their numbers")
    static void onesBeyondBoundAreEqual() {
        for (int kind = 1; kind < 3; kind++) {
            SceneTree tree = new SceneTree();
            for (int node = 0; node < 8; node++) {
                tree.add(node - 1, kind);
                tree.set(node, 0, 0, 0, kind == 1 ? -Due.WIDEST_MOVE : Due.WIDEST_MOVE);
            }
            Due.order("eight moves in a chain, kind " + kind + ":", tree, 3, 4, 5, 6, 7, 2, 1, 0);
        }
    }

    @Sentence("by MODEL at 2, 3")
    static void theOtherCellsDoNotCount() {
        SceneTree tree = row(new int[] {1, 1}, new int[] {0, 0});
        tree.set(1, 0, -100000, -200000, 0);
        tree.set(1, 1, 100, 200, 300);
        tree.set(1, 2, -Due.ONE, 5, -Due.ONE);
        Due.order("moved aside, turned and sized:", tree, 0, 1);
        tree.camera(1, 0, 1024, 0);
        Due.order("seen from the side:", tree, 1, 0);
    }

    @Sentence("The k-th node, from 0 on, in THE ORDER")
    static void theOrderFollowsEachChange() {
        SceneTree tree = row(new int[] {1, 2, 1, 1}, new int[] {10, 10, 9, 0});
        Due.order("at first:", tree, 3, 2, 0, 1);
        tree.hang(3, 0);
        Due.order("after hang:", tree, 2, 0, 3, 1);
        tree.hide(0, true);
        Due.order("after hide:", tree, 2, 1);
        tree.hide(0, false);
        tree.set(3, 0, 0, 0, -5);
        Due.order("after set:", tree, 3, 2, 0, 1);
        tree.add(-1, 2);
        Due.order("after add:", tree, 3, 2, 0, 1, 4);
        tree.clear();
        Due.order("after clear:", tree);
    }

    @Sentence("NONE if there is none.")
    static void theLastPlacesWithinAndTheFirstOutside() {
        SceneTree tree = Scene.small().made();
        Check.due("seen()", tree.seen(), 3);
        Check.due("inOrder(0)", tree.inOrder(0), 0);
        Check.due("inOrder(2) is a node", tree.inOrder(2) >= 0, true);
        for (int k : new int[] {-1, -2, 3, 4, 5, 6, 47, 48, Due.LEAST, Due.GREATEST}) {
            Refusal.byNone("inOrder(" + k + ")", Scene.small(), at -> at.inOrder(k));
        }
    }

    @Sentence("NONE if there is none.")
    static void fortyEightPlaces() {
        SceneTree tree = new SceneTree();
        int[] due = new int[48];
        for (int node = 0; node < 48; node++) {
            tree.add(-1, 1);
            tree.set(node, 0, 0, 0, -node);
            due[node] = 47 - node;
        }
        Due.order("48 backwards:", tree, due);
        Refusal.byNone("inOrder(48)", Scene.full(), at -> at.inOrder(48));
        Refusal.byNone("inOrder(-1)", Scene.full(), at -> at.inOrder(-1));
    }

    @Sentence("NONE if there is none.")
    static void noNodesAtAll() {
        for (int k : new int[] {-1, 0, 1, 47, Due.LEAST, Due.GREATEST}) {
            Refusal.byNone("new: inOrder(" + k + ")", Scene.fresh(), at -> at.inOrder(k));
            Refusal.byNone("cleared: inOrder(" + k + ")", Scene.cleared(), at -> at.inOrder(k));
        }
    }

    @Sentence("NONE if there is none.")
    static void nodesOfWhichNoneIsSeen() {
        SceneTree tree = row(new int[] {0, 1, 2}, new int[] {1, 2, 3});
        tree.hide(1, true);
        tree.hide(2, true);
        Due.order("none seen:", tree);
    }
}
