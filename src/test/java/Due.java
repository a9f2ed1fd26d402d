/** Looks at many answers of a tree at once, for the tests that know them all. */
final class Due {
    static final int ONE = 65536;
    static final int BOUND = 16777216;
    static final int WIDEST_MOVE = 4194304;
    static final int WIDEST_TURN = 1048576;
    static final int WIDEST_SIZE = 1048576;
    static final int LEAST = Integer.MIN_VALUE;
    static final int GREATEST = Integer.MAX_VALUE;
    /** Outside on each side, for a scene of five nodes. */
    static final int[] NO_NODES_OF_SMALL = {-1, -2, 5, 6, 47, 48, LEAST, GREATEST};

    static final Cells WORLD = new Cells("world", SceneTree::world);
    static final Cells MODEL = new Cells("model", SceneTree::model);

    private Due() {
    }

    static void about(String of, SceneTree tree, int node, int... want) {
        for (int what = 0; what < 12; what++) {
            int asked = what;
            Check.due(of + " about(" + node + ", " + what + ")", () -> tree.about(node, asked), want[what]);
        }
    }

    static void world(String of, SceneTree tree, int node, int... want) {
        WORLD.due(of, tree, node, want);
    }

    static void model(String of, SceneTree tree, int node, int... want) {
        MODEL.due(of, tree, node, want);
    }

    static void order(String of, SceneTree tree, int... want) {
        for (int k = 0; k < want.length; k++) {
            Check.due(of + " inOrder(" + k + ")", tree.inOrder(k), want[k]);
        }
        for (int k : new int[] {want.length, 48, GREATEST, -1, LEAST}) {
            Check.due(of + " inOrder(" + k + ")", tree.inOrder(k), SceneTree.NONE);
        }
        Check.due(of + " seen()", tree.seen(), want.length);
    }
}
