/** Promise 6: hide. */
public final class Promise06HideTest {
    public static void main(String[] args) {
        Check.run("Promise 6, hide", Promise06HideTest.class);
    }

    @Sentence("A node is hidden, or not: true")
    static void aNodeIsHiddenAndShown() {
        SceneTree tree = Scene.small().made();
        Check.due("hide", tree.hide(1, true), true);
        Check.due("hidden itself", tree.about(1, 2), 1);
        Check.due("hidden by another only", tree.about(2, 2), 0);
        Check.due("show", tree.hide(1, false), true);
        Check.due("shown", tree.about(1, 2), 0);
    }

    @Sentence("A node is hidden, or not: true")
    static void whatItIsAlreadyIsTaken() {
        SceneTree tree = Scene.small().made();
        Check.due("show one that is not hidden", tree.hide(1, false), true);
        Check.due("about(1, 2)", tree.about(1, 2), 0);
        Check.due("hide one that is hidden", tree.hide(3, true), true);
        Check.due("about(3, 2)", tree.about(3, 2), 1);
        Check.due("show it once", tree.hide(3, false), true);
        Check.due("about(3, 2)", tree.about(3, 2), 0);
    }

    @Sentence("A node is hidden, or not: true")
    static void aHiddenNodeStillHasItsMatrices() {
        SceneTree shown = Scene.small().made();
        SceneTree hidden = Scene.small().made();
        hidden.hide(0, true);
        for (int cell = 0; cell < 12; cell++) {
            int i = cell / 4;
            int j = cell % 4;
            Check.due("world(1, " + i + ", " + j + ")", hidden.world(1, i, j), shown.world(1, i, j));
            Check.due("model(0, " + i + ", " + j + ")", hidden.model(0, i, j), shown.model(0, i, j));
        }
    }

    @Sentence("false if there is none such")
    static void theLastNodesWithin() {
        for (int node : new int[] {0, 4}) {
            SceneTree tree = Scene.small().made();
            Check.due("hide(" + node + ", true)", tree.hide(node, true), true);
            Check.due("about(" + node + ", 2)", tree.about(node, 2), 1);
        }
        SceneTree full = Scene.full().made();
        Check.due("hide(47, true)", full.hide(47, true), true);
        Check.due("about(47, 2)", full.about(47, 2), 1);
    }

    @Sentence("false if there is none such")
    static void theFirstNodesOutside() {
        for (int node : Due.NO_NODES_OF_SMALL) {
            Refusal.byFalse("hide(" + node + ", true)", Scene.small(), tree -> tree.hide(node, true));
            Refusal.byFalse("hide(" + node + ", false)", Scene.small(), tree -> tree.hide(node, false));
        }
        Refusal.byFalse("hide(48, true) of 48", Scene.full(), tree -> tree.hide(48, true));
        Refusal.byFalse("hide(-1, true) of 48", Scene.full(), tree -> tree.hide(-1, true));
    }
}
