/** What world and model have in common: a node, a row and a column, and what there is outside of them. */
final class Cells {
    private static final int[] NO_ROWS = {-1, 3, 4, Due.LEAST, Due.GREATEST};
    /** In a flat row of cells some of these would be a cell of another row. */
    private static final int[] NO_COLUMNS = {-1, 4, 5, 11, Due.LEAST, Due.GREATEST};

    private final String name;
    private final Matrix matrix;

    /** SceneTree::world or SceneTree::model. */
    interface Matrix {
        int at(SceneTree tree, int node, int i, int j);
    }

    Cells(String name, Matrix matrix) {
        this.name = name;
        this.matrix = matrix;
    }

    void due(String of, SceneTree tree, int node, int... want) {
        for (int cell = 0; cell < 12; cell++) {
            int i = cell / 4;
            int j = cell % 4;
            Check.due(of + " " + call(node, i, j), () -> matrix.at(tree, node, i, j), want[cell]);
        }
    }

    void lastRowsAndColumnsWithin() {
        SceneTree tree = Scene.chain(1, 0);
        tree.set(0, 0, 2, 3, 4);
        due("at each corner:", tree, 0, Due.ONE, 0, 0, 2, 0, Due.ONE, 0, 3, 0, 0, Due.ONE, 4);
    }

    void firstRowsOutside() {
        for (int i : NO_ROWS) {
            for (int node : new int[] {0, 4}) {
                refused(Scene.small(), node, i, 0);
                refused(Scene.small(), node, i, 3);
            }
        }
    }

    void firstColumnsOutside() {
        for (int j : NO_COLUMNS) {
            for (int i = 0; i < 3; i++) {
                refused(Scene.small(), 1, i, j);
            }
        }
    }

    void firstNodesOutside() {
        for (int node : Due.NO_NODES_OF_SMALL) {
            refused(Scene.small(), node, 0, 0);
            refused(Scene.small(), node, 2, 3);
        }
        refused(Scene.full(), -1, 0, 0);
        refused(Scene.full(), 48, 0, 0);
    }

    void lastNodesWithin() {
        SceneTree tree = Scene.chain(48, 1);
        tree.set(0, 0, 5, 6, 7);
        due("the first of 48:", tree, 0, Due.ONE, 0, 0, 5, 0, Due.ONE, 0, 6, 0, 0, Due.ONE, 7);
        due("the last of 48:", tree, 47, Due.ONE, 0, 0, 5, 0, Due.ONE, 0, 6, 0, 0, Due.ONE, 7);
    }

    private void refused(Scene scene, int node, int i, int j) {
        Refusal.byThrowing(call(node, i, j), scene, tree -> matrix.at(tree, node, i, j));
    }

    private String call(int node, int i, int j) {
        return name + "(" + node + ", " + i + ", " + j + ")";
    }
}
