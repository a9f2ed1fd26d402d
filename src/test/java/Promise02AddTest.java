/** Promise 2: add. */
public final class Promise02AddTest {
    public static void main(String[] args) {
        Check.run("Promise 2, add", Promise02AddTest.class);
    }

    @Sentence("A node more, with move and turn 0, size 65536 65536 65536: its number.")
    static void aNodeHasItsFirstNumbers() {
        SceneTree tree = new SceneTree();
        for (int kind = 0; kind < 3; kind++) {
            Check.due("add of kind " + kind, tree.add(kind - 1, kind), kind);
            Due.about("added:", tree, kind, kind - 1, kind, 0, 0, 0, 0, 0, 0, 0, Due.ONE, Due.ONE, Due.ONE);
            Due.world("added:", tree, kind, Due.ONE, 0, 0, 0, 0, Due.ONE, 0, 0, 0, 0, Due.ONE, 0);
        }
        Check.due("add at an earlier node", tree.add(0, 1), 3);
        Check.due("its parent", tree.about(3, 0), 0);
        Check.due("count()", tree.count(), 4);
    }

    @Sentence("it may be HIDDEN (at first it is not)")
    static void aNodeIsNotHiddenAtFirst() {
        SceneTree tree = Scene.small().made();
        tree.hide(4, true);
        Check.due("add", tree.add(-1, 1), 5);
        Check.due("about(5, 2)", tree.about(5, 2), 0);
        Check.due("add at a hidden one", tree.add(4, 1), 6);
        Check.due("about(6, 2)", tree.about(6, 2), 0);
        Check.due("seen()", tree.seen(), 3);
    }

    @Sentence("A node more, with move and turn 0, size 65536 65536 65536: its number.")
    static void aNodeLeavesTheOthersAsTheyAre() {
        SceneTree tree = new SceneTree();
        tree.add(-1, 2);
        tree.set(0, 0, 3, 4, 5);
        tree.set(0, 1, 0, 1024, 0);
        tree.set(0, 2, 9, 10, 11);
        tree.hide(0, true);
        tree.add(0, 1);
        Due.about("the first:", tree, 0, -1, 2, 1, 3, 4, 5, 0, 1024, 0, 9, 10, 11);
        Due.world("the first:", tree, 0, 0, 0, 11, 3, 0, 10, 0, 4, -9, 0, 0, 5);
    }

    @Sentence("NONE, and nothing changes, if there are 48")
    static void the48thIsMade() {
        SceneTree tree = new SceneTree();
        for (int node = 0; node < 48; node++) {
            Check.due("add number " + node, tree.add(node - 1, 1), node);
            Check.due("count()", tree.count(), node + 1);
        }
        Due.about("the 48th:", tree, 47, 46, 1, 0, 0, 0, 0, 0, 0, 0, Due.ONE, Due.ONE, Due.ONE);
        Due.model("the 48th:", tree, 47, Due.ONE, 0, 0, 0, 0, Due.ONE, 0, 0, 0, 0, Due.ONE, 0);
    }

    @Sentence("NONE, and nothing changes, if there are 48")
    static void the49thIsRefused() {
        Refusal.byNone("add(-1, 1)", Scene.full(), tree -> tree.add(-1, 1));
        Refusal.byNone("add(0, 2)", Scene.full(), tree -> tree.add(0, 2));
        Refusal.byNone("add(47, 0)", Scene.full(), tree -> tree.add(47, 0));
        Refusal.byNone("add(48, 3)", Scene.full(), tree -> tree.add(48, 3));
        SceneTree tree = Scene.full().made();
        for (int more = 0; more < 100; more++) {
            Check.due("add beyond 48", tree.add(-1, 1), SceneTree.NONE);
        }
        Check.due("count()", tree.count(), 48);
    }

    @Sentence("the parent is no node and not -1")
    static void theLastParentsWithin() {
        for (int parent : new int[] {-1, 0, 4}) {
            SceneTree tree = Scene.small().made();
            Check.due("add(" + parent + ", 1)", tree.add(parent, 1), 5);
            Check.due("about(5, 0)", tree.about(5, 0), parent);
        }
    }

    @Sentence("the parent is no node and not -1")
    static void theFirstParentsOutside() {
        for (int parent : new int[] {-2, 5, 6, 47, 48, Due.LEAST, Due.GREATEST}) {
            Refusal.byNone("add(" + parent + ", 1)", Scene.small(), tree -> tree.add(parent, 1));
        }
        for (int parent : new int[] {-2, 0, 1}) {
            Refusal.byNone("first add(" + parent + ", 1)", Scene.fresh(), tree -> tree.add(parent, 1));
            Refusal.byNone("add(" + parent + ", 1) after clear", Scene.cleared(), tree -> tree.add(parent, 1));
        }
    }

    @Sentence("or there is no such kind")
    static void theLastKindsWithin() {
        for (int kind : new int[] {0, 1, 2}) {
            SceneTree tree = Scene.small().made();
            Check.due("add(-1, " + kind + ")", tree.add(-1, kind), 5);
            Check.due("about(5, 1)", tree.about(5, 1), kind);
        }
    }

    @Sentence("or there is no such kind")
    static void theFirstKindsOutside() {
        for (int kind : new int[] {-1, 3, 4, Due.LEAST, Due.GREATEST}) {
            Refusal.byNone("add(-1, " + kind + ")", Scene.small(), tree -> tree.add(-1, kind));
            Refusal.byNone("add(4, " + kind + ")", Scene.small(), tree -> tree.add(4, kind));
        }
    }

    @Sentence("NONE, and nothing changes")
    static void twoFaultsAreRefusedToo() {
        Refusal.byNone("add(5, 3)", Scene.small(), tree -> tree.add(5, 3));
        Refusal.byNone("add(-2, -1)", Scene.small(), tree -> tree.add(-2, -1));
    }
}
