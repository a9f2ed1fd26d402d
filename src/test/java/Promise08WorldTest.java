/** Promise 8: world. */
public final class Promise08WorldTest {
    public static void main(String[] args) {
        Check.run("Promise 8, world", Promise08WorldTest.class);
    }

    /** What is due was worked out apart from this program. */
    @Sentence("WORLD of a node at row i, column j")
    static void worldOfCrookedNodes() {
        SceneTree tree = Scene.crooked();
        Due.world("below:", tree, 1,
            81261, -47299, -22563, 324260, -16502, -26511, 31540, -110694, -55372, -7188, -32897, 227784);
        Due.world("above:", tree, 0,
            -20, -13503, -126215, 100000, -43920, 37390, -27558, -200001, -54369, -30200, 22307, 300003);
    }

    @Sentence("WORLD is its parent's WORLD * LOCAL, without a parent LOCAL.")
    static void aChainOf48() {
        SceneTree tree = new SceneTree();
        for (int node = 0; node < 48; node++) {
            tree.add(node - 1, 1);
            tree.set(node, 0, 1, -2, 3);
        }
        Due.world("the last:", tree, 47, Due.ONE, 0, 0, 48, 0, Due.ONE, 0, -96, 0, 0, Due.ONE, 144);
        Due.world("the first:", tree, 0, Due.ONE, 0, 0, 1, 0, Due.ONE, 0, -2, 0, 0, Due.ONE, 3);
        tree.set(0, 0, 101, 98, 103);
        Due.world("the last, the first being moved:", tree, 47,
            Due.ONE, 0, 0, 148, 0, Due.ONE, 0, 4, 0, 0, Due.ONE, 244);
        tree.hang(24, -1);
        Check.due("the last, hung away from the first", tree.world(47, 0, 3), 24);
        Check.due("the one before that", tree.world(23, 0, 3), 124);
    }

    @Sentence("WORLD is its parent's WORLD * LOCAL, without a parent LOCAL.")
    static void theAnswerDoesNotHangOnWhatWasAskedBefore() {
        for (int asked = 0; asked < Scene.SMALL; asked++) {
            SceneTree tree = Scene.small().made();
            tree.world(asked, 0, 0);
            tree.set(1, 2, 40000, 50000, 60000);
            SceneTree other = Scene.small().made();
            other.set(1, 2, 40000, 50000, 60000);
            for (int node = Scene.SMALL - 1; node >= 0; node--) {
                for (int cell = 0; cell < 12; cell++) {
                    Check.due("world(" + node + ", ..) at cell " + cell + " after world(" + asked + ", ..)",
                        tree.world(node, cell / 4, cell % 4), other.world(node, cell / 4, cell % 4));
                }
            }
        }
    }

    @Sentence("A MATRIX has 3 rows of 4")
    static void theLastRowsAndColumnsWithin() {
        Due.WORLD.lastRowsAndColumnsWithin();
    }

    @Sentence("NoSuchElementException if there is none such.")
    static void theFirstRowsOutside() {
        Due.WORLD.firstRowsOutside();
    }

    @Sentence("NoSuchElementException if there is none such.")
    static void theFirstColumnsOutside() {
        Due.WORLD.firstColumnsOutside();
    }

    @Sentence("NoSuchElementException if there is none such.")
    static void theLastNodesWithin() {
        Due.WORLD.lastNodesWithin();
    }

    @Sentence("NoSuchElementException if there is none such.")
    static void theFirstNodesOutside() {
        Due.WORLD.firstNodesOutside();
    }
}
