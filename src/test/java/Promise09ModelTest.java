/** Promise 9: model. */
public final class Promise09ModelTest {
    public static void main(String[] args) {
        Check.run("Promise 9, model", Promise09ModelTest.class);
    }

    /** What is due was worked out apart from this program. */
    @Sentence("MODEL of a node at row i, column j")
    static void modelOfCrookedNodes() {
        SceneTree tree = Scene.crooked();
        Due.model("above:", tree, 0,
            -49986, -16665, 80399, -116230, -1826, 44391, 59387, -46298, 48712, -15405, 84526, 81486);
        Due.model("below:", tree, 1,
            -89554, 15577, -14874, -284349, -40280, 19601, 48274, -113780, -16788, 48519, -5165, -93153);
        tree.clear();
        tree.add(-1, 0);
        Due.model("the camera alone:", tree, 0,
            -32765, 4620, 56530, -310910, -44341, 38480, -28869, 270948, -35224, -52731, -16110, 48058);
    }

    @Sentence("MODEL is VIEW * WORLD.")
    static void modelFollowsEachChange() {
        SceneTree tree = new SceneTree();
        tree.add(-1, 1);
        tree.add(0, 1);
        Check.due("at first", tree.model(1, 0, 3), 0);
        tree.set(0, 0, 100, 0, 0);
        Check.due("after set", tree.model(1, 0, 3), 100);
        tree.camera(0, 30, 0, 0);
        Check.due("after camera", tree.model(1, 0, 3), 70);
        tree.camera(1, 0, 0, 2048);
        Check.due("after a turn of the camera", tree.model(1, 0, 3), -70);
        tree.hang(1, -1);
        Check.due("after hang", tree.model(1, 0, 3), 30);
        tree.hide(1, true);
        Check.due("after hide", tree.model(1, 0, 3), 30);
    }

    @Sentence("A MATRIX has 3 rows of 4")
    static void theLastRowsAndColumnsWithin() {
        Due.MODEL.lastRowsAndColumnsWithin();
    }

    @Sentence("NoSuchElementException if there is none such.")
    static void theFirstRowsOutside() {
        Due.MODEL.firstRowsOutside();
    }

    @Sentence("NoSuchElementException if there is none such.")
    static void theFirstColumnsOutside() {
        Due.MODEL.firstColumnsOutside();
    }

    @Sentence("NoSuchElementException if there is none such.")
    static void theLastNodesWithin() {
        Due.MODEL.lastNodesWithin();
    }

    @Sentence("NoSuchElementException if there is none such.")
    static void theFirstNodesOutside() {
        Due.MODEL.firstNodesOutside();
    }
}
