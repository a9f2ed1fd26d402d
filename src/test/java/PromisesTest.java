/** Each promise of the document by ordinary inputs, by the edges that it names and by wrong inputs. */
public final class PromisesTest {
    private static final int ONE = 65536;
    private static final int WIDEST_MOVE = 4194304;
    private static final int WIDEST_TURN = 1048576;
    private static final int WIDEST_SIZE = 1048576;
    private static final int[] NO_NODES = {-1, 3, 47, 48, Integer.MIN_VALUE, Integer.MAX_VALUE};

    public static void main(String[] args) {
        newObject();
        addGivesNodes();
        addRefuses();
        addFillsUp();
        clearKeepsTheCamera();
        clearLeavesNothingOfOldNodes();
        setKeepsNumbers();
        setRefuses();
        setReachesNodesBelow();
        hangMoves();
        hangRefuses();
        hideHides();
        cameraMovesAndTurns();
        cameraRefuses();
        sines();
        worldOfNodes();
        worldIsBounded();
        roundingGoesDown();
        modelOfNodes();
        cellsThatAreNot();
        seenCounts();
        orderByDepth();
        orderOfEqualOnes();
        orderFollowsChanges();
        aboutTellsAll();
        aboutRefuses();
        countCounts();
        Check.finish("PromisesTest");
    }

    private static SceneTree chainOfThree() {
        SceneTree tree = new SceneTree();
        tree.add(-1, 1);
        tree.add(0, 2);
        tree.add(1, 1);
        return tree;
    }

    private static SceneTree full() {
        SceneTree tree = new SceneTree();
        for (int node = 0; node < 48; node++) {
            tree.add(node - 1, node % 3);
        }
        return tree;
    }

    /** Two nodes and a camera with numbers that make every rounding count; what is due was worked out apart from this program. */
    private static SceneTree crooked() {
        SceneTree tree = new SceneTree();
        tree.add(-1, 1);
        tree.add(0, 1);
        tree.set(0, 0, 100000, -200001, 300003);
        tree.set(0, 1, 137, -911, 2503);
        tree.set(0, 2, 70001, -50003, 131079);
        tree.set(1, 0, -7, 65537, -123457);
        tree.set(1, 1, -3001, 555, 99);
        tree.set(1, 2, 65536, 32767, -65537);
        tree.camera(0, 54321, -98765, 400001);
        tree.camera(1, 611, -1303, 77);
        return tree;
    }

    private static void dueAbout(String of, SceneTree tree, int node, int... want) {
        for (int what = 0; what < 12; what++) {
            int asked = what;
            Check.due(of + " about(" + node + ", " + what + ")", () -> tree.about(node, asked), want[what]);
        }
    }

    private static void dueWorld(String of, SceneTree tree, int node, int... want) {
        for (int cell = 0; cell < 12; cell++) {
            int i = cell / 4;
            int j = cell % 4;
            Check.due(of + " world(" + node + ", " + i + ", " + j + ")", () -> tree.world(node, i, j), want[cell]);
        }
    }

    private static void dueModel(String of, SceneTree tree, int node, int... want) {
        for (int cell = 0; cell < 12; cell++) {
            int i = cell / 4;
            int j = cell % 4;
            Check.due(of + " model(" + node + ", " + i + ", " + j + ")", () -> tree.model(node, i, j), want[cell]);
        }
    }

    private static void dueOrder(String of, SceneTree tree, int... want) {
        for (int k = 0; k < want.length; k++) {
            Check.due(of + " inOrder(" + k + ")", tree.inOrder(k), want[k]);
        }
        for (int k : new int[] {want.length, 48, Integer.MAX_VALUE, -1, Integer.MIN_VALUE}) {
            Check.due(of + " inOrder(" + k + ")", tree.inOrder(k), SceneTree.NONE);
        }
        Check.due(of + " seen()", tree.seen(), want.length);
    }

    private static void newObject() {
        SceneTree tree = new SceneTree();
        Check.due("NONE", SceneTree.NONE, -1);
        Check.due("new: count()", tree.count(), 0);
        dueOrder("new:", tree);
        Check.due("new: world(0, 0, 0)", () -> tree.world(0, 0, 0), Check.THROWS);
        Check.due("new: model(0, 0, 0)", () -> tree.model(0, 0, 0), Check.THROWS);
        Check.due("new: about(0, 0)", () -> tree.about(0, 0), Check.THROWS);
        Check.due("new: set", tree.set(0, 0, 0, 0, 0), false);
        Check.due("new: hang", tree.hang(0, -1), false);
        Check.due("new: hide", tree.hide(0, true), false);
        tree.add(-1, 1);
        dueModel("new camera:", tree, 0, ONE, 0, 0, 0, 0, ONE, 0, 0, 0, 0, ONE, 0);
        SceneTree other = new SceneTree();
        Check.due("two objects share nothing: count()", other.count(), 0);
    }

    private static void addGivesNodes() {
        SceneTree tree = new SceneTree();
        for (int kind = 0; kind < 3; kind++) {
            Check.due("add of kind " + kind, tree.add(kind - 1, kind), kind);
            dueAbout("added:", tree, kind, kind - 1, kind, 0, 0, 0, 0, 0, 0, 0, ONE, ONE, ONE);
            dueWorld("added:", tree, kind, ONE, 0, 0, 0, 0, ONE, 0, 0, 0, 0, ONE, 0);
        }
        Check.due("add at an earlier node", tree.add(0, 1), 3);
        Check.due("its parent", tree.about(3, 0), 0);
    }

    private static void addRefuses() {
        SceneTree tree = chainOfThree();
        for (int parent : new int[] {-2, 3, 4, 48, Integer.MIN_VALUE, Integer.MAX_VALUE}) {
            Check.due("add at " + parent, tree.add(parent, 1), SceneTree.NONE);
        }
        for (int kind : new int[] {-1, 3, Integer.MIN_VALUE, Integer.MAX_VALUE}) {
            Check.due("add of kind " + kind, tree.add(-1, kind), SceneTree.NONE);
        }
        Check.due("refused: count()", tree.count(), 3);
        Check.due("a node is not its own parent at its making", new SceneTree().add(0, 1), SceneTree.NONE);
        Check.due("after refusals add", tree.add(2, 0), 3);
    }

    private static void addFillsUp() {
        SceneTree tree = new SceneTree();
        for (int node = 0; node < 48; node++) {
            Check.due("add number " + node, tree.add(-1, 1), node);
        }
        Check.due("add number 48", tree.add(-1, 1), SceneTree.NONE);
        Check.due("add at 47", tree.add(47, 1), SceneTree.NONE);
        Check.due("full: count()", tree.count(), 48);
        Check.due("full: seen()", tree.seen(), 48);
        Check.due("full: inOrder(47)", tree.inOrder(47), 47);
        Check.due("full: inOrder(48)", tree.inOrder(48), SceneTree.NONE);
        tree.clear();
        Check.due("full and cleared: add", tree.add(-1, 1), 0);
    }

    private static void clearKeepsTheCamera() {
        SceneTree tree = chainOfThree();
        tree.camera(0, 11, 22, 33);
        tree.camera(1, 0, 2048, 0);
        tree.clear();
        Check.due("cleared: count()", tree.count(), 0);
        Check.due("cleared: seen()", tree.seen(), 0);
        Check.due("cleared: inOrder(0)", tree.inOrder(0), SceneTree.NONE);
        Check.due("cleared: world", () -> tree.world(0, 0, 0), Check.THROWS);
        Check.due("cleared: about", () -> tree.about(0, 1), Check.THROWS);
        Check.due("cleared: add at an old node", tree.add(0, 1), SceneTree.NONE);
        tree.add(-1, 1);
        dueModel("cleared, camera stays:", tree, 0, -ONE, 0, 0, 11, 0, ONE, 0, -22, 0, 0, -ONE, 33);
    }

    private static void clearLeavesNothingOfOldNodes() {
        SceneTree tree = chainOfThree();
        for (int node = 0; node < 3; node++) {
            tree.set(node, 0, 5, 6, 7);
            tree.set(node, 1, 8, 9, 10);
            tree.set(node, 2, 11, 12, 13);
            tree.hide(node, true);
            tree.world(node, 0, 0);
        }
        tree.clear();
        tree.add(-1, 2);
        tree.add(-1, 1);
        dueAbout("new after clear:", tree, 0, -1, 2, 0, 0, 0, 0, 0, 0, 0, ONE, ONE, ONE);
        dueAbout("new after clear:", tree, 1, -1, 1, 0, 0, 0, 0, 0, 0, 0, ONE, ONE, ONE);
        dueWorld("new after clear:", tree, 1, ONE, 0, 0, 0, 0, ONE, 0, 0, 0, 0, ONE, 0);
        dueOrder("new after clear:", tree, 1, 0);
    }

    private static void setKeepsNumbers() {
        SceneTree tree = chainOfThree();
        Check.due("set move", tree.set(1, 0, WIDEST_MOVE, -WIDEST_MOVE, 3), true);
        Check.due("set turn", tree.set(1, 1, -WIDEST_TURN, 5, WIDEST_TURN), true);
        Check.due("set size", tree.set(1, 2, 0, WIDEST_SIZE, -WIDEST_SIZE), true);
        dueAbout("set:", tree, 1, 0, 2, 0, WIDEST_MOVE, -WIDEST_MOVE, 3, -WIDEST_TURN, 5, WIDEST_TURN, 0, WIDEST_SIZE, -WIDEST_SIZE);
        dueAbout("set of another:", tree, 0, -1, 1, 0, 0, 0, 0, 0, 0, 0, ONE, ONE, ONE);
        dueAbout("set of another:", tree, 2, 1, 1, 0, 0, 0, 0, 0, 0, 0, ONE, ONE, ONE);
    }

    private static void setRefuses() {
        SceneTree tree = chainOfThree();
        for (int node : NO_NODES) {
            Check.due("set of node " + node, tree.set(node, 0, 1, 1, 1), false);
        }
        for (int what : new int[] {-1, 3, Integer.MIN_VALUE, Integer.MAX_VALUE}) {
            Check.due("set of what " + what, tree.set(1, what, 1, 1, 1), false);
        }
        int[] widest = {WIDEST_MOVE, WIDEST_TURN, WIDEST_SIZE};
        for (int what = 0; what < 3; what++) {
            for (int out : new int[] {widest[what] + 1, -widest[what] - 1, Integer.MIN_VALUE, Integer.MAX_VALUE}) {
                Check.due("set " + what + " to x " + out, tree.set(1, what, out, 1, 1), false);
                Check.due("set " + what + " to y " + out, tree.set(1, what, 1, out, 1), false);
                Check.due("set " + what + " to z " + out, tree.set(1, what, 1, 1, out), false);
            }
        }
        dueAbout("set refused:", tree, 1, 0, 2, 0, 0, 0, 0, 0, 0, 0, ONE, ONE, ONE);
        dueWorld("set refused:", tree, 1, ONE, 0, 0, 0, 0, ONE, 0, 0, 0, 0, ONE, 0);
    }

    private static void setReachesNodesBelow() {
        SceneTree tree = chainOfThree();
        tree.add(-1, 1);
        Check.due("below, before set", tree.world(2, 0, 3), 0);
        tree.set(0, 0, 100, 200, 300);
        Check.due("below, after set", tree.world(2, 0, 3), 100);
        tree.set(1, 0, 1000, 2000, 3000);
        Check.due("below, after a second set", tree.world(2, 1, 3), 2200);
        Check.due("above, after a second set", tree.world(0, 1, 3), 200);
        tree.set(0, 2, 2 * ONE, ONE, ONE);
        Check.due("below, after a size", tree.world(2, 0, 3), 2100);
        Check.due("below, its size", tree.world(2, 0, 0), 2 * ONE);
        Check.due("not below", tree.world(3, 0, 0), ONE);
    }

    private static void hangMoves() {
        SceneTree tree = chainOfThree();
        tree.set(0, 0, 100, 0, 0);
        tree.set(1, 0, 10, 0, 0);
        tree.set(2, 0, 1, 0, 0);
        Check.due("hung at 1", tree.world(2, 0, 3), 111);
        Check.due("hang at 0", tree.hang(2, 0), true);
        Check.due("hung at 0", tree.world(2, 0, 3), 101);
        Check.due("hung at 0: parent", tree.about(2, 0), 0);
        Check.due("hang at none", tree.hang(2, -1), true);
        Check.due("hung at none", tree.world(2, 0, 3), 1);
        Check.due("hung at none: parent", tree.about(2, 0), -1);
        Check.due("hang at the parent that it has", tree.hang(1, 0), true);
        Check.due("hang at 1 again", tree.hang(2, 1), true);
        Check.due("hang the one above at none", tree.hang(1, -1), true);
        Check.due("hung below", tree.world(2, 0, 3), 11);
        Check.due("hang the first at none", tree.hang(0, -1), true);
    }

    private static void hangRefuses() {
        SceneTree tree = chainOfThree();
        for (int node : NO_NODES) {
            Check.due("hang of node " + node, tree.hang(node, -1), false);
            Check.due("hang of node " + node + " at 0", tree.hang(node, 0), false);
        }
        for (int parent : new int[] {-2, 1, 2, 3, 48, Integer.MIN_VALUE, Integer.MAX_VALUE}) {
            Check.due("hang of 1 at " + parent, tree.hang(1, parent), false);
        }
        Check.due("hang refused: parent", tree.about(1, 0), 0);
    }

    private static void hideHides() {
        SceneTree tree = chainOfThree();
        Check.due("hide", tree.hide(1, true), true);
        Check.due("hide again", tree.hide(1, true), true);
        Check.due("hidden itself", tree.about(1, 2), 1);
        Check.due("hidden by another only", tree.about(2, 2), 0);
        Check.due("hidden: seen()", tree.seen(), 1);
        Check.due("show", tree.hide(1, false), true);
        Check.due("shown", tree.about(1, 2), 0);
        Check.due("shown: seen()", tree.seen(), 3);
        for (int node : NO_NODES) {
            Check.due("hide of node " + node, tree.hide(node, true), false);
            Check.due("show of node " + node, tree.hide(node, false), false);
        }
        Check.due("hide refused: seen()", tree.seen(), 3);
        Check.due("a hidden node has a world", () -> tree.world(1, 0, 0), ONE);
    }

    private static void cameraMovesAndTurns() {
        SceneTree tree = new SceneTree();
        tree.add(-1, 1);
        Check.due("camera move", tree.camera(0, WIDEST_MOVE, -WIDEST_MOVE, 3), true);
        dueModel("camera moved:", tree, 0, ONE, 0, 0, -WIDEST_MOVE, 0, ONE, 0, WIDEST_MOVE, 0, 0, ONE, -3);
        Check.due("camera turn", tree.camera(1, 0, 1024, 0), true);
        dueModel("camera turned:", tree, 0, 0, 0, -ONE, 3, 0, ONE, 0, WIDEST_MOVE, ONE, 0, 0, -WIDEST_MOVE);
        Check.due("camera turn, widest", tree.camera(1, WIDEST_TURN, -WIDEST_TURN, WIDEST_TURN), true);
        dueModel("camera turned whole turns:", tree, 0, ONE, 0, 0, -WIDEST_MOVE, 0, ONE, 0, WIDEST_MOVE, 0, 0, ONE, -3);
        dueWorld("camera leaves WORLD alone:", tree, 0, ONE, 0, 0, 0, 0, ONE, 0, 0, 0, 0, ONE, 0);
        tree.camera(0, 0, 0, 0);
        dueModel("camera back:", tree, 0, ONE, 0, 0, 0, 0, ONE, 0, 0, 0, 0, ONE, 0);
        Check.due("camera needs no node", new SceneTree().camera(0, 1, 2, 3), true);
    }

    private static void cameraRefuses() {
        SceneTree tree = new SceneTree();
        tree.add(-1, 1);
        for (int what : new int[] {-1, 2, 3, Integer.MIN_VALUE, Integer.MAX_VALUE}) {
            Check.due("camera what " + what, tree.camera(what, 1, 1, 1), false);
        }
        int[] widest = {WIDEST_MOVE, WIDEST_TURN};
        for (int what = 0; what < 2; what++) {
            for (int out : new int[] {widest[what] + 1, -widest[what] - 1, Integer.MIN_VALUE, Integer.MAX_VALUE}) {
                Check.due("camera " + what + " to x " + out, tree.camera(what, out, 1, 1), false);
                Check.due("camera " + what + " to y " + out, tree.camera(what, 1, out, 1), false);
                Check.due("camera " + what + " to z " + out, tree.camera(what, 1, 1, out), false);
            }
        }
        dueModel("camera refused:", tree, 0, ONE, 0, 0, 0, 0, ONE, 0, 0, 0, 0, ONE, 0);
    }

    /** A node turned about z alone shows SIN and COS as they are. */
    private static void sines() {
        int[][] due = {
            {0, 0}, {1, 102}, {2, 204}, {300, 29134}, {512, 46260}, {1023, 65535}, {1024, 65536}, {1025, 65535},
            {1500, 48741}, {2047, 102}, {2048, 0}, {2049, -102}, {3000, -65131}, {3072, -65536}, {4095, -102},
            {4096, 0}, {-1, -102}, {-700, -57535}, {-1024, -65536}, {-4096, 0}, {1048575, -102}, {-1048575, 102},
        };
        SceneTree tree = new SceneTree();
        tree.add(-1, 1);
        for (int[] row : due) {
            int k = row[0];
            tree.set(0, 1, 0, 0, k);
            Check.due("SIN(" + k + ")", tree.world(0, 1, 0), row[1]);
            Check.due("-SIN(" + k + ")", tree.world(0, 0, 1), -row[1]);
            tree.set(0, 1, 0, 0, k > 0 ? k - 1024 : k + 3072);
            Check.due("COS(" + k + " - 1024)", tree.world(0, 0, 0), row[1]);
        }
        tree.set(0, 1, 1024, 0, 0);
        dueWorld("X:", tree, 0, ONE, 0, 0, 0, 0, 0, -ONE, 0, 0, ONE, 0, 0);
        tree.set(0, 1, 0, 1024, 0);
        dueWorld("Y:", tree, 0, 0, 0, ONE, 0, 0, ONE, 0, 0, -ONE, 0, 0, 0);
        tree.set(0, 1, 0, 0, 1024);
        dueWorld("Z:", tree, 0, 0, -ONE, 0, 0, ONE, 0, 0, 0, 0, 0, ONE, 0);
    }

    private static void worldOfNodes() {
        SceneTree tree = crooked();
        dueWorld("crooked:", tree, 1,
            81261, -47299, -22563, 324260, -16502, -26511, 31540, -110694, -55372, -7188, -32897, 227784);
        dueWorld("crooked:", tree, 0,
            -20, -13503, -126215, 100000, -43920, 37390, -27558, -200001, -54369, -30200, 22307, 300003);
    }

    private static void worldIsBounded() {
        SceneTree tree = full();
        for (int node = 0; node < 48; node++) {
            tree.set(node, 0, WIDEST_MOVE, -WIDEST_MOVE, 0);
        }
        Check.due("three moves", tree.world(2, 0, 3), 3 * WIDEST_MOVE);
        Check.due("four moves", tree.world(3, 0, 3), 16777216);
        Check.due("five moves", tree.world(4, 0, 3), 16777216);
        Check.due("five moves down", tree.world(4, 1, 3), -16777216);
        Check.due("48 moves", tree.world(47, 1, 3), -16777216);
        tree.set(0, 2, WIDEST_SIZE, -WIDEST_SIZE, WIDEST_SIZE);
        tree.set(1, 2, WIDEST_SIZE, WIDEST_SIZE, 0);
        tree.set(2, 2, WIDEST_SIZE, WIDEST_SIZE, 1);
        Check.due("two sizes", tree.world(1, 0, 0), 256 * ONE);
        Check.due("three sizes", tree.world(2, 0, 0), 256 * ONE);
        Check.due("three sizes down", tree.world(47, 1, 1), -256 * ONE);
        Check.due("a size of 0", tree.world(47, 2, 2), 0);
    }

    private static void roundingGoesDown() {
        SceneTree tree = new SceneTree();
        tree.add(-1, 1);
        tree.add(0, 1);
        tree.set(0, 2, 1, -1, 1);
        tree.set(1, 0, -1, 1, 1);
        Check.due("1 * -1", tree.world(1, 0, 3), -1);
        Check.due("-1 * 1", tree.world(1, 1, 3), -1);
        Check.due("1 * 1", tree.world(1, 2, 3), 0);
    }

    private static void modelOfNodes() {
        SceneTree tree = crooked();
        dueModel("crooked:", tree, 0,
            -49986, -16665, 80399, -116230, -1826, 44391, 59387, -46298, 48712, -15405, 84526, 81486);
        dueModel("crooked:", tree, 1,
            -89554, 15577, -14874, -284349, -40280, 19601, 48274, -113780, -16788, 48519, -5165, -93153);
        tree.clear();
        tree.add(-1, 0);
        dueModel("crooked camera alone:", tree, 0,
            -32765, 4620, 56530, -310910, -44341, 38480, -28869, 270948, -35224, -52731, -16110, 48058);
        SceneTree far = full();
        for (int node = 0; node < 48; node++) {
            far.set(node, 0, WIDEST_MOVE, -WIDEST_MOVE, 0);
        }
        far.camera(0, -WIDEST_MOVE, WIDEST_MOVE, 0);
        Check.due("MODEL is bounded", far.model(47, 0, 3), 16777216);
        Check.due("MODEL is bounded down", far.model(47, 1, 3), -16777216);
    }

    private static void cellsThatAreNot() {
        SceneTree tree = chainOfThree();
        for (int node : NO_NODES) {
            Check.due("world of " + node, () -> tree.world(node, 0, 0), Check.THROWS);
            Check.due("model of " + node, () -> tree.model(node, 0, 0), Check.THROWS);
        }
        for (int i : new int[] {-1, 3, 4, Integer.MIN_VALUE, Integer.MAX_VALUE}) {
            Check.due("world at row " + i, () -> tree.world(0, i, 0), Check.THROWS);
            Check.due("model at row " + i, () -> tree.model(0, i, 0), Check.THROWS);
        }
        for (int j : new int[] {-1, 4, 5, Integer.MIN_VALUE, Integer.MAX_VALUE}) {
            Check.due("world at column " + j, () -> tree.world(0, 0, j), Check.THROWS);
            Check.due("model at column " + j, () -> tree.model(0, 1, j), Check.THROWS);
        }
        Check.due("world at a cell that would be one in a flat row", () -> tree.world(0, 1, -1), Check.THROWS);
    }

    private static void seenCounts() {
        SceneTree tree = full();
        Check.due("full: seen()", tree.seen(), 32);
        tree.hide(47, true);
        Check.due("the last hidden: seen()", tree.seen(), 31);
        tree.hide(3, true);
        Check.due("the fourth hidden, of kind 0: seen()", tree.seen(), 2);
        tree.hang(10, -1);
        Check.due("hung away from the hidden one: seen()", tree.seen(), 2 + 25);
        tree.hide(3, false);
        tree.hide(47, false);
        Check.due("all shown: seen()", tree.seen(), 32);
        tree.hide(0, true);
        Check.due("the first hidden: seen()", tree.seen(), 25 + 1);
    }

    private static void orderByDepth() {
        SceneTree tree = new SceneTree();
        int[] kinds = {2, 1, 0, 2, 1, 2, 1};
        int[] depths = {5, 9, 1, 8, -4, -6, 3};
        for (int node = 0; node < kinds.length; node++) {
            tree.add(-1, kinds[node]);
            tree.set(node, 0, -depths[node], 7, depths[node]);
        }
        dueOrder("order:", tree, 4, 6, 1, 3, 0, 5);
        tree.camera(1, 0, 2048, 0);
        dueOrder("order from behind:", tree, 1, 6, 4, 5, 0, 3);
        tree.camera(1, 0, 0, 0);
        tree.camera(0, 0, 0, 1000);
        dueOrder("order from afar:", tree, 4, 6, 1, 3, 0, 5);
    }

    private static void orderOfEqualOnes() {
        SceneTree tree = new SceneTree();
        for (int node = 0; node < 8; node++) {
            tree.add(-1, 1 + node % 2);
        }
        dueOrder("equal:", tree, 0, 2, 4, 6, 1, 3, 5, 7);
        tree.set(4, 0, 0, 0, -1);
        tree.set(5, 0, 0, 0, 1);
        dueOrder("nearly equal:", tree, 4, 0, 2, 6, 5, 1, 3, 7);
    }

    private static void orderFollowsChanges() {
        SceneTree tree = chainOfThree();
        tree.add(-1, 1);
        tree.set(0, 0, 0, 0, 10);
        tree.set(2, 0, 0, 0, -1);
        dueOrder("changes:", tree, 3, 2, 0, 1);
        tree.hang(2, -1);
        dueOrder("after hang:", tree, 2, 3, 0, 1);
        tree.hide(0, true);
        dueOrder("after hide:", tree, 2, 3);
        tree.hide(0, false);
        tree.set(3, 0, 0, 0, 99);
        dueOrder("after set:", tree, 2, 0, 3, 1);
        tree.add(-1, 2);
        dueOrder("after add:", tree, 2, 0, 3, 1, 4);
        tree.set(3, 1, 100, 200, 300);
        tree.set(3, 2, -ONE, 0, ONE);
        dueOrder("turn and size leave a node's own place:", tree, 2, 0, 3, 1, 4);
    }

    private static void aboutTellsAll() {
        SceneTree tree = chainOfThree();
        tree.set(2, 0, 3, 4, 5);
        tree.set(2, 1, 6, 7, 8);
        tree.set(2, 2, 9, 10, 11);
        tree.hide(2, true);
        dueAbout("about:", tree, 2, 1, 1, 1, 3, 4, 5, 6, 7, 8, 9, 10, 11);
        dueAbout("about:", tree, 0, -1, 1, 0, 0, 0, 0, 0, 0, 0, ONE, ONE, ONE);
    }

    private static void aboutRefuses() {
        SceneTree tree = chainOfThree();
        for (int node : NO_NODES) {
            Check.due("about node " + node, () -> tree.about(node, 0), Check.THROWS);
        }
        for (int what : new int[] {-1, 12, 13, Integer.MIN_VALUE, Integer.MAX_VALUE}) {
            Check.due("about what " + what, () -> tree.about(1, what), Check.THROWS);
        }
    }

    private static void countCounts() {
        SceneTree tree = chainOfThree();
        Check.due("count()", tree.count(), 3);
        tree.hide(0, true);
        tree.hang(1, -1);
        tree.add(9, 1);
        Check.due("count() counts the hidden ones, not the refused", tree.count(), 3);
        Check.due("full: count()", full().count(), 48);
        tree.clear();
        Check.due("cleared: count()", tree.count(), 0);
    }
}
