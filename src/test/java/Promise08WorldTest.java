/** Promise 8: world. */
public final class Promise08WorldTest {
    public static void main(String[] args) {
        Check.run("Promise 8, world", Promise08WorldTest.class);
    }

    /** The numbers make every rounding count; what is due was worked out apart from this program. */
    @Sentence("WORLD of a node at row i, column j")
    static void worldOfCrookedNodes() {
        SceneTree tree = new SceneTree();
        tree.add(-1, 1);
        tree.add(0, 1);
        tree.set(0, 0, 100000, -200001, 300003);
        tree.set(0, 1, 137, -911, 2503);
        tree.set(0, 2, 70001, -50003, 131079);
        tree.set(1, 0, -7, 65537, -123457);
        tree.set(1, 1, -3001, 555, 99);
        tree.set(1, 2, 65536, 32767, -65537);
        Due.world("below:", tree, 1,
            81261, -47299, -22563, 324260, -16502, -26511, 31540, -110694, -55372, -7188, -32897, 227784);
        Due.world("above:", tree, 0,
            -20, -13503, -126215, 100000, -43920, 37390, -27558, -200001, -54369, -30200, 22307, 300003);
    }

    @Sentence("WORLD is its parent's WORLD * LOCAL, without a parent LOCAL.")
    static void aChainOf48() {
        SceneTree tree = new SceneTree();
        for (int node = 0; node < 48; node++) {
            tree.add(node - 1, 1);
            tree.set(node, 0, 1, -2, 3);
        }
        Due.world("the last:", tree, 47, Due.ONE, 0, 0, 48, 0, Due.ONE, 0, -96, 0, 0, Due.ONE, 144);
        Due.world("the first:", tree, 0, Due.ONE, 0, 0, 1, 0, Due.ONE, 0, -2, 0, 0, Due.ONE, 3);
        tree.set(0, 0, 101, 98, 103);
        Due.world("the last, the first being moved:", tree, 47,
            Due.ONE, 0, 0, 148, 0, Due.ONE, 0, 4, 0, 0, Due.ONE, 244);
        tree.hang(24, -1);
        Check.due("the last, hung away from the first", tree.world(47, 0, 3), 24);
        Check.due("the one before that", tree.world(23, 0, 3), 124);
    }

    @Sentence("WORLD is its parent's WORLD * LOCAL, without a parent LOCAL.")
    static void theAnswerDoesNotHangOnWhatWasAskedBefore() {
        for (int asked = 0; asked < Scene.SMALL; asked++) {
            SceneTree tree = Scene.small().made();
            tree.world(asked, 0, 0);
            tree.set(1, 2, 40000, 50000, 60000);
            SceneTree other = Scene.small().made();
            other.set(1, 2, 40000, 50000, 60000);
            for (int node = Scene.SMALL - 1; node >= 0; node--) {
                for (int cell = 0; cell < 12; cell++) {
                    Check.due("world(" + node + ", ..) at cell " + cell + " after world(" + asked + ", ..)",
                        tree.world(node, cell / 4, cell % 4), other.world(node, cell / 4, cell % 4));
                }
            }
        }
    }

    @Sentence("A MATRIX has 3 rows of 4")
    static void theLastRowsAndColumnsWithin() {
        SceneTree tree = new SceneTree();
        tree.add(-1, 1);
        tree.set(0, 0, 2, 3, 4);
        Check.due("world(0, 0, 0)", () -> tree.world(0, 0, 0), Due.ONE);
        Check.due("world(0, 0, 3)", () -> tree.world(0, 0, 3), 2);
        Check.due("world(0, 2, 0)", () -> tree.world(0, 2, 0), 0);
        Check.due("world(0, 2, 3)", () -> tree.world(0, 2, 3), 4);
    }

    @Sentence("NoSuchElementException if there is none such.")
    static void theFirstRowsOutside() {
        for (int i : new int[] {-1, 3, 4, Due.LEAST, Due.GREATEST}) {
            for (int j : new int[] {0, 3}) {
                Refusal.byThrowing("world(0, " + i + ", " + j + ")", Scene.small(), tree -> tree.world(0, i, j));
                Refusal.byThrowing("world(4, " + i + ", " + j + ")", Scene.small(), tree -> tree.world(4, i, j));
            }
        }
    }

    /** A cell of another row would be found at some of these if the rows stood one behind the other unchecked. */
    @Sentence("NoSuchElementException if there is none such.")
    static void theFirstColumnsOutside() {
        for (int j : new int[] {-1, 4, 5, 11, Due.LEAST, Due.GREATEST}) {
            for (int i = 0; i < 3; i++) {
                int row = i;
                Refusal.byThrowing("world(1, " + row + ", " + j + ")", Scene.small(), tree -> tree.world(1, row, j));
            }
        }
    }

    @Sentence("NoSuchElementException if there is none such.")
    static void theFirstNodesOutside() {
        for (int node : Due.NO_NODES_OF_SMALL) {
            Refusal.byThrowing("world(" + node + ", 0, 0)", Scene.small(), tree -> tree.world(node, 0, 0));
            Refusal.byThrowing("world(" + node + ", 2, 3)", Scene.small(), tree -> tree.world(node, 2, 3));
        }
        Refusal.byThrowing("world(48, 0, 0) of 48", Scene.full(), tree -> tree.world(48, 0, 0));
        Check.due("world(47, 2, 3) of 48 throws", Check.answerOf(() -> Scene.full().made().world(47, 2, 3)) == Check.THROWS, false);
    }
}
