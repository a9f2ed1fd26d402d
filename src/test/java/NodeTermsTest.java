/** The terms of the document that tell what a node and the camera have. */
public final class NodeTermsTest {
    public static void main(String[] args) {
        Check.run("Terms", NodeTermsTest.class);
    }

    @Sentence("A NODE has a PARENT, a node before it (nodes are numbered 0, 1, ..) or none (-1)")
    static void nodesAreNumberedAsTheyCome() {
        SceneTree tree = new SceneTree();
        for (int time = 0; time < 3; time++) {
            for (int node = 0; node < 48; node++) {
                Check.due("add, time " + time, tree.add(node % 2 == 0 ? -1 : node / 2, node % 3), node);
            }
            tree.clear();
        }
        Check.due("add after a refused one", tree.add(0, 1), SceneTree.NONE);
        Check.due("add after a refused one", tree.add(-1, 1), 0);
    }

    @Sentence("A NODE has a PARENT, a node before it (nodes are numbered 0, 1, ..) or none (-1)")
    static void aNodeKeepsItsNumber() {
        SceneTree tree = Scene.chain(4, 1);
        for (int node = 0; node < 4; node++) {
            tree.set(node, 0, node, 0, 100 - node);
        }
        tree.hang(3, 0);
        tree.hide(1, true);
        tree.hang(2, -1);
        Check.due("inOrder(0)", tree.inOrder(0), 2);
        for (int node = 0; node < 4; node++) {
            Check.due("about(" + node + ", 3)", tree.about(node, 3), node);
            Check.due("about(" + node + ", 5)", tree.about(node, 5), 100 - node);
        }
    }

    @Sentence("A NODE has a PARENT, a node before it (nodes are numbered 0, 1, ..) or none (-1)")
    static void aParentIsAlwaysBefore() {
        SceneTree tree = Scene.chain(8, 1);
        for (int node = 0; node < 8; node++) {
            for (int parent = -1; parent < 9; parent++) {
                tree.hang(node, parent);
                int due = parent < node ? parent : node - 1;
                Check.due("hang(" + node + ", " + parent + "): the parent", tree.about(node, 0), due);
            }
        }
    }

    @Sentence("a KIND 0 (it shows nothing), 1 (solid), 2 (clear)")
    static void eachKindShowsAsItIs() {
        SceneTree tree = new SceneTree();
        for (int node = 0; node < 6; node++) {
            tree.add(-1, node % 3);
            tree.set(node, 0, 0, 0, node);
        }
        Due.order("two of each kind:", tree, 1, 4, 5, 2);
    }

    @Sentence("a KIND 0 (it shows nothing), 1 (solid), 2 (clear)")
    static void aKindStays() {
        SceneTree tree = new SceneTree();
        for (int kind = 0; kind < 3; kind++) {
            tree.add(kind - 1, kind);
            tree.set(kind, 0, 1, 2, 3);
            tree.set(kind, 2, 0, 0, 0);
            tree.hide(kind, true);
            tree.hide(kind, false);
            tree.hang(kind, -1);
        }
        for (int kind = 0; kind < 3; kind++) {
            Check.due("about(" + kind + ", 1)", tree.about(kind, 1), kind);
        }
        Due.order("the kinds:", tree, 1, 2);
    }

    /** The three numbers are unlike, and in another order they would be another turn. */
    @Sentence("LOCAL of a node: at i, j below 3 BOUND(MUL(T at i, j, size j)), "
        + "T being TURN of the three numbers of its turn")
    static void localTakesTheThreeNumbersInTheirOrder() {
        SceneTree tree = Scene.chain(1, 1);
        tree.set(0, 1, 577, 681, 136);
        Due.world("577 681 136:", tree, 0, 41315, 35895, 35784, 0, 8649, 40528, -50635, 0, -50046, 36681, 20809, 0);
        tree.set(0, 1, 136, 577, 681);
        Due.world("136 577 681:", tree, 0, 29936, -30478, 49523, 0, 55352, 32188, -13680, 0, -17959, 48069, 40528, 0);
    }

    @Sentence("LOCAL of a node: at i, j below 3 BOUND(MUL(T at i, j, size j)), "
        + "T being TURN of the three numbers of its turn")
    static void localTakesOneSizeForEachColumn() {
        SceneTree tree = Scene.chain(1, 1);
        tree.set(0, 1, 577, 681, 136);
        tree.set(0, 2, 131072, -32768, 65537);
        Due.world("sized:", tree, 0, 82630, -17948, 35784, 0, 17298, -20264, -50636, 0, -100092, -18341, 20809, 0);
        tree.set(0, 2, 0, 0, 0);
        Due.world("size 0:", tree, 0, 0, 0, 0, 0, 0, 0, 0, 0, 0, 0, 0, 0);
    }

    @Sentence("at i, 3 its move i")
    static void aMoveIsNotTurnedOrSizedByItsOwnNode() {
        int[][] moves = {{7, -8, 9}, {4194304, -4194304, 4194303}, {-1, 0, 1}};
        for (int[] move : moves) {
            SceneTree tree = Scene.chain(1, 1);
            tree.set(0, 0, move[0], move[1], move[2]);
            tree.set(0, 1, 577, 681, 136);
            tree.set(0, 2, 131072, -32768, 65537);
            Due.world("moved:", tree, 0,
                82630, -17948, 35784, move[0], 17298, -20264, -50636, move[1], -100092, -18341, 20809, move[2]);
            tree.set(0, 2, 0, 0, 0);
            Due.world("of size 0:", tree, 0, 0, 0, 0, move[0], 0, 0, 0, move[1], 0, 0, 0, move[2]);
        }
    }

    @Sentence("VIEW: at i, j below 3 the camera's TURN at j, i")
    static void theViewHasTheTurnsRowsAsColumns() {
        SceneTree tree = Scene.chain(1, 1);
        tree.camera(1, 577, 681, 136);
        Due.model("577 681 136:", tree, 0, 41315, 8649, -50046, 0, 35895, 40528, 36681, 0, 35784, -50635, 20809, 0);
        tree.camera(1, 136, 577, 681);
        Due.model("136 577 681:", tree, 0, 29936, 55352, -17959, 0, -30478, 32188, 48069, 0, 49523, -13680, 40528, 0);
    }

    @Sentence("at i, 3 BOUND(-(MUL(Vi0, mx) + MUL(Vi1, my) + MUL(Vi2, mz))), m its move.")
    static void theViewMovesBackByTheCamerasMove() {
        SceneTree tree = Scene.chain(1, 1);
        tree.camera(0, 1000, 200, 30);
        dueMoves("not turned:", tree, -1000, -200, -30);
        tree.camera(1, 1024, 0, 0);
        dueMoves("turned about x:", tree, -1000, -30, 200);
        tree.camera(1, 0, 1024, 0);
        dueMoves("turned about y:", tree, 30, -200, -1000);
        tree.camera(1, 0, 0, 1024);
        dueMoves("turned about z:", tree, -200, 1000, -30);
        tree.camera(1, 577, 681, 136);
        dueMoves("turned about all:", tree, -633, -686, -400);
    }

    private static void dueMoves(String of, SceneTree tree, int... want) {
        for (int i = 0; i < 3; i++) {
            Check.due(of + " model(0, " + i + ", 3)", tree.model(0, i, 3), want[i]);
        }
    }

    @Sentence("A node is SEEN if its kind is not 0 and neither it nor one above it is hidden.")
    static void eachKindHiddenOrNotBelowOneHiddenOrNot() {
        for (int kind = 0; kind < 3; kind++) {
            for (int hidden = 0; hidden < 8; hidden++) {
                SceneTree tree = new SceneTree();
                tree.add(-1, 0);
                tree.add(0, 0);
                tree.add(1, kind);
                for (int node = 0; node < 3; node++) {
                    tree.hide(node, (hidden >> node & 1) == 1);
                }
                boolean isSeen = kind != 0 && hidden == 0;
                String of = "kind " + kind + ", hidden " + Integer.toBinaryString(hidden);
                Check.due(of + ": seen()", tree.seen(), isSeen ? 1 : 0);
                Check.due(of + ": inOrder(0)", tree.inOrder(0), isSeen ? 2 : SceneTree.NONE);
            }
        }
    }
}
