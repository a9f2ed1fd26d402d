/** Promise 4: set. */
public final class Promise04SetTest {
    private static final int[] WIDEST = {Due.WIDEST_MOVE, Due.WIDEST_TURN, Due.WIDEST_SIZE};

    public static void main(String[] args) {
        Check.run("Promise 4, set", Promise04SetTest.class);
    }

    @Sentence("A node's move (what 0), turn (1) or size (2) is x y z: true")
    static void theNumbersAreKept() {
        SceneTree tree = Scene.chain(3, 1);
        Check.due("set move", tree.set(1, 0, 3, -4, 5), true);
        Check.due("set turn", tree.set(1, 1, -6, 7, -8), true);
        Check.due("set size", tree.set(1, 2, 9, 0, -11), true);
        Due.about("set:", tree, 1, 0, 1, 0, 3, -4, 5, -6, 7, -8, 9, 0, -11);
        Due.about("not set:", tree, 0, -1, 1, 0, 0, 0, 0, 0, 0, 0, Due.ONE, Due.ONE, Due.ONE);
        Due.about("not set:", tree, 2, 1, 1, 0, 0, 0, 0, 0, 0, 0, Due.ONE, Due.ONE, Due.ONE);
    }

    @Sentence("A node's move (what 0), turn (1) or size (2) is x y z: true")
    static void nodesBelowFollow() {
        SceneTree tree = Scene.chain(3, 1);
        tree.add(-1, 1);
        Check.due("below, before set", tree.world(2, 0, 3), 0);
        tree.set(0, 0, 100, 200, 300);
        Check.due("below, after set", tree.world(2, 0, 3), 100);
        tree.set(1, 0, 1000, 2000, 3000);
        Check.due("below, after a second set", tree.world(2, 1, 3), 2200);
        Check.due("above, after a second set", tree.world(0, 1, 3), 200);
        tree.set(0, 2, 2 * Due.ONE, Due.ONE, Due.ONE);
        Check.due("below, after a size", tree.world(2, 0, 3), 2100);
        Check.due("below, its size", tree.world(2, 0, 0), 2 * Due.ONE);
        tree.set(0, 1, 0, 0, 2048);
        Check.due("below, after a turn", tree.world(2, 1, 3), -1800);
        Check.due("not below", tree.world(3, 0, 0), Due.ONE);
    }

    @Sentence("a MOVE (3 numbers, -4194304 .. 4194304), a TURN (3, -1048576 .. 1048576) "
        + "and a SIZE (3, -1048576 .. 1048576)")
    static void theLastNumbersWithin() {
        for (int what = 0; what < 3; what++) {
            for (int side : new int[] {WIDEST[what], -WIDEST[what], WIDEST[what] - 1, 1 - WIDEST[what]}) {
                for (int axis = 0; axis < 3; axis++) {
                    aNumberIsTaken(what, axis, side);
                }
            }
            int widest = WIDEST[what];
            SceneTree tree = Scene.small().made();
            Check.due("set " + what + ", all widest", tree.set(0, what, widest, -widest, widest), true);
            Check.due("set " + what + ", all widest", tree.set(0, what, -widest, widest, -widest), true);
        }
    }

    private static void aNumberIsTaken(int what, int axis, int number) {
        int[] to = {1, 2, 3};
        to[axis] = number;
        String call = "set(1, " + what + ", " + to[0] + ", " + to[1] + ", " + to[2] + ")";
        SceneTree tree = Scene.small().made();
        Check.due(call, tree.set(1, what, to[0], to[1], to[2]), true);
        for (int k = 0; k < 3; k++) {
            Check.due(call + ", number " + k, tree.about(1, 3 + 3 * what + k), to[k]);
        }
    }

    @Sentence("or it can't have them")
    static void theFirstNumbersOutside() {
        for (int what = 0; what < 3; what++) {
            for (int out : new int[] {WIDEST[what] + 1, -WIDEST[what] - 1, Due.LEAST, Due.GREATEST}) {
                aNumberIsRefused(what, out);
            }
        }
    }

    private static void aNumberIsRefused(int what, int out) {
        String call = "set(1, " + what + ", ..) with " + out;
        Refusal.byFalse(call + " as x", Scene.small(), tree -> tree.set(1, what, out, 1, 2));
        Refusal.byFalse(call + " as y", Scene.small(), tree -> tree.set(1, what, 1, out, 2));
        Refusal.byFalse(call + " as z", Scene.small(), tree -> tree.set(1, what, 1, 2, out));
    }

    @Sentence("or it can't have them")
    static void aMoveReachesFurtherThanATurnAndASize() {
        Refusal.byFalse("a turn as wide as a move", Scene.small(), tree -> tree.set(1, 1, Due.WIDEST_MOVE, 0, 0));
        Refusal.byFalse("a size as wide as a move", Scene.small(), tree -> tree.set(1, 2, 0, 0, -Due.WIDEST_MOVE));
        Check.due("a move wider than a turn", Scene.small().made().set(1, 0, Due.WIDEST_TURN + 1, 0, 0), true);
    }

    @Sentence("false if there is no such node")
    static void theLastNodesWithin() {
        for (int what = 0; what < 3; what++) {
            Check.due("the first of 5", Scene.small().made().set(0, what, 1, 2, 3), true);
            Check.due("the last of 5", Scene.small().made().set(4, what, 1, 2, 3), true);
            Check.due("the last of 48", Scene.full().made().set(47, what, 1, 2, 3), true);
        }
    }

    @Sentence("false if there is no such node")
    static void theFirstNodesOutside() {
        for (int what = 0; what < 3; what++) {
            int asked = what;
            for (int node : Due.NO_NODES_OF_SMALL) {
                String call = "set(" + node + ", " + what + ", 1, 2, 3)";
                Refusal.byFalse(call, Scene.small(), tree -> tree.set(node, asked, 1, 2, 3));
            }
            Refusal.byFalse("set(48, ..) of 48", Scene.full(), tree -> tree.set(48, asked, 1, 2, 3));
            Refusal.byFalse("set(-1, ..) of 48", Scene.full(), tree -> tree.set(-1, asked, 1, 2, 3));
        }
    }

    @Sentence("false if there is no such node or what")
    static void theFirstWhatsOutside() {
        for (int what : new int[] {-1, 3, 4, Due.LEAST, Due.GREATEST}) {
            for (int node : new int[] {0, 1, 4}) {
                String call = "set(" + node + ", " + what + ", 1, 2, 3)";
                Refusal.byFalse(call, Scene.small(), tree -> tree.set(node, what, 1, 2, 3));
            }
            Refusal.byFalse("set(47, " + what + ", ..) of 48", Scene.full(), tree -> tree.set(47, what, 1, 2, 3));
        }
    }
}
