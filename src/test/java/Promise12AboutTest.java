/** Promise 12: about. */
public final class Promise12AboutTest {
    public static void main(String[] args) {
        Check.run("Promise 12, about", Promise12AboutTest.class);
    }

    @Sentence("Of a node, what 0: its parent, 1: its kind")
    static void itsParentAndItsKind() {
        SceneTree tree = new SceneTree();
        for (int node = 0; node < 48; node++) {
            tree.add(node / 2 - 1, node % 3);
        }
        for (int node = 0; node < 48; node++) {
            int asked = node;
            Check.due("about(" + node + ", 0)", () -> tree.about(asked, 0), node / 2 - 1);
            Check.due("about(" + node + ", 1)", () -> tree.about(asked, 1), node % 3);
        }
        tree.hang(47, 46);
        Check.due("after hang: about(47, 0)", tree.about(47, 0), 46);
        tree.hang(47, -1);
        Check.due("after hang at none: about(47, 0)", tree.about(47, 0), -1);
    }

    @Sentence("3 .. 5: its move, 6 .. 8: turn, 9 .. 11: size")
    static void allThatThereIs() {
        SceneTree tree = new SceneTree();
        tree.add(-1, 2);
        tree.add(0, 1);
        tree.set(1, 0, 3, 4, 5);
        tree.set(1, 1, 6, 7, 8);
        tree.set(1, 2, 9, 10, 11);
        tree.hide(1, true);
        Due.about("set:", tree, 1, 0, 1, 1, 3, 4, 5, 6, 7, 8, 9, 10, 11);
        Due.about("not set:", tree, 0, -1, 2, 0, 0, 0, 0, 0, 0, 0, Due.ONE, Due.ONE, Due.ONE);
    }

    @Sentence("2: 1 if it is hidden itself, 0 if not")
    static void oneBelowAHiddenOneIsNotHiddenItself() {
        SceneTree tree = new SceneTree();
        tree.add(-1, 1);
        tree.add(0, 1);
        tree.hide(0, true);
        Check.due("about(0, 2)", tree.about(0, 2), 1);
        Check.due("about(1, 2)", tree.about(1, 2), 0);
        Check.due("seen()", tree.seen(), 0);
    }

    @Sentence("6 .. 8: turn")
    static void aTurnIsToldAsItWasSet() {
        SceneTree tree = new SceneTree();
        tree.add(-1, 1);
        tree.set(0, 1, -1, 4096, 1048576);
        Check.due("about(0, 6)", tree.about(0, 6), -1);
        Check.due("about(0, 7)", tree.about(0, 7), 4096);
        Check.due("about(0, 8)", tree.about(0, 8), 1048576);
    }

    @Sentence("NoSuchElementException if there is none such.")
    static void theLastWhatsWithin() {
        SceneTree tree = Scene.small().made();
        Check.due("about(0, 0)", () -> tree.about(0, 0), -1);
        Check.due("about(0, 11)", () -> tree.about(0, 11), 131079);
        Check.due("about(4, 0)", () -> tree.about(4, 0), -1);
        Check.due("about(4, 11)", () -> tree.about(4, 11), Due.ONE);
        SceneTree full = Scene.full().made();
        Check.due("about(47, 0)", () -> full.about(47, 0), 23);
        Check.due("about(47, 11)", () -> full.about(47, 11), Due.ONE);
    }

    @Sentence("NoSuchElementException if there is none such.")
    static void theFirstWhatsOutside() {
        for (int what : new int[] {-1, 12, 13, Due.LEAST, Due.GREATEST}) {
            for (int node : new int[] {0, 1, 4}) {
                Refusal.byThrowing("about(" + node + ", " + what + ")", Scene.small(), tree -> tree.about(node, what));
            }
            Refusal.byThrowing("about(47, " + what + ") of 48", Scene.full(), tree -> tree.about(47, what));
        }
    }

    @Sentence("NoSuchElementException if there is none such.")
    static void theFirstNodesOutside() {
        for (int node : Due.NO_NODES_OF_SMALL) {
            for (int what : new int[] {0, 1, 2, 3, 11}) {
                Refusal.byThrowing("about(" + node + ", " + what + ")", Scene.small(), tree -> tree.about(node, what));
            }
        }
        Refusal.byThrowing("about(48, 0) of 48", Scene.full(), tree -> tree.about(48, 0));
        Refusal.byThrowing("about(-1, 0) of 48", Scene.full(), tree -> tree.about(-1, 0));
    }
}
