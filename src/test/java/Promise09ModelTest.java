/** Promise 9: model. */
public final class Promise09ModelTest {
    public static void main(String[] args) {
        Check.run("Promise 9, model", Promise09ModelTest.class);
    }

    /** The numbers make every rounding count; what is due was worked out apart from this program. */
    @Sentence("MODEL of a node at row i, column j")
    static void modelOfCrookedNodes() {
        SceneTree tree = new SceneTree();
        tree.add(-1, 1);
        tree.add(0, 1);
        tree.set(0, 0, 100000, -200001, 300003);
        tree.set(0, 1, 137, -911, 2503);
        tree.set(0, 2, 70001, -50003, 131079);
        tree.set(1, 0, -7, 65537, -123457);
        tree.set(1, 1, -3001, 555, 99);
        tree.set(1, 2, 65536, 32767, -65537);
        tree.camera(0, 54321, -98765, 400001);
        tree.camera(1, 611, -1303, 77);
        Due.model("above:", tree, 0,
            -49986, -16665, 80399, -116230, -1826, 44391, 59387, -46298, 48712, -15405, 84526, 81486);
        Due.model("below:", tree, 1,
            -89554, 15577, -14874, -284349, -40280, 19601, 48274, -113780, -16788, 48519, -5165, -93153);
        tree.clear();
        tree.add(-1, 0);
        Due.model("the camera alone:", tree, 0,
            -32765, 4620, 56530, -310910, -44341, 38480, -28869, 270948, -35224, -52731, -16110, 48058);
    }

    @Sentence("MODEL is VIEW * WORLD.")
    static void modelFollowsEachChange() {
        SceneTree tree = new SceneTree();
        tree.add(-1, 1);
        tree.add(0, 1);
        Check.due("at first", tree.model(1, 0, 3), 0);
        tree.set(0, 0, 100, 0, 0);
        Check.due("after set", tree.model(1, 0, 3), 100);
        tree.camera(0, 30, 0, 0);
        Check.due("after camera", tree.model(1, 0, 3), 70);
        tree.camera(1, 0, 0, 2048);
        Check.due("after a turn of the camera", tree.model(1, 0, 3), -70);
        tree.hang(1, -1);
        Check.due("after hang", tree.model(1, 0, 3), 30);
        tree.hide(1, true);
        Check.due("after hide", tree.model(1, 0, 3), 30);
    }

    @Sentence("A MATRIX has 3 rows of 4")
    static void theLastRowsAndColumnsWithin() {
        SceneTree tree = new SceneTree();
        tree.add(-1, 0);
        tree.set(0, 0, 2, 3, 4);
        Check.due("model(0, 0, 0)", () -> tree.model(0, 0, 0), Due.ONE);
        Check.due("model(0, 0, 3)", () -> tree.model(0, 0, 3), 2);
        Check.due("model(0, 2, 0)", () -> tree.model(0, 2, 0), 0);
        Check.due("model(0, 2, 3)", () -> tree.model(0, 2, 3), 4);
    }

    @Sentence("NoSuchElementException if there is none such.")
    static void theFirstRowsOutside() {
        for (int i : new int[] {-1, 3, 4, Due.LEAST, Due.GREATEST}) {
            for (int j : new int[] {0, 3}) {
                Refusal.byThrowing("model(0, " + i + ", " + j + ")", Scene.small(), tree -> tree.model(0, i, j));
                Refusal.byThrowing("model(4, " + i + ", " + j + ")", Scene.small(), tree -> tree.model(4, i, j));
            }
        }
    }

    @Sentence("NoSuchElementException if there is none such.")
    static void theFirstColumnsOutside() {
        for (int j : new int[] {-1, 4, 5, 11, Due.LEAST, Due.GREATEST}) {
            for (int i = 0; i < 3; i++) {
                int row = i;
                Refusal.byThrowing("model(1, " + row + ", " + j + ")", Scene.small(), tree -> tree.model(1, row, j));
            }
        }
    }

    @Sentence("NoSuchElementException if there is none such.")
    static void theFirstNodesOutside() {
        for (int node : Due.NO_NODES_OF_SMALL) {
            Refusal.byThrowing("model(" + node + ", 0, 0)", Scene.small(), tree -> tree.model(node, 0, 0));
            Refusal.byThrowing("model(" + node + ", 2, 3)", Scene.small(), tree -> tree.model(node, 2, 3));
        }
        Refusal.byThrowing("model(48, 0, 0) of 48", Scene.full(), tree -> tree.model(48, 0, 0));
        Check.due("model(47, 2, 3) of 48 throws", Check.answerOf(() -> Scene.full().made().model(47, 2, 3)) == Check.THROWS, false);
    }
}
