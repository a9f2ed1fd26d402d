/** Promise 7: camera. */
public final class Promise07CameraTest {
    private static final int[] WIDEST = {Due.WIDEST_MOVE, Due.WIDEST_TURN};

    public static void main(String[] args) {
        Check.run("Promise 7, camera", Promise07CameraTest.class);
    }

    @Sentence("The camera's move (what 0) or turn (1) is x y z: true")
    static void theCameraMovesAndTurns() {
        SceneTree tree = Scene.chain(1, 1);
        Check.due("move", tree.camera(0, 1000, -2000, 3), true);
        Due.model("moved:", tree, 0, Due.ONE, 0, 0, -1000, 0, Due.ONE, 0, 2000, 0, 0, Due.ONE, -3);
        Check.due("turn", tree.camera(1, 0, 1024, 0), true);
        Due.model("turned:", tree, 0, 0, 0, -Due.ONE, 3, 0, Due.ONE, 0, 2000, Due.ONE, 0, 0, -1000);
        Due.world("WORLD stays:", tree, 0, Due.ONE, 0, 0, 0, 0, Due.ONE, 0, 0, 0, 0, Due.ONE, 0);
        Check.due("move back", tree.camera(0, 0, 0, 0), true);
        Due.model("moved back:", tree, 0, 0, 0, -Due.ONE, 0, 0, Due.ONE, 0, 0, Due.ONE, 0, 0, 0);
        Check.due("a camera needs no node", new SceneTree().camera(0, 1, 2, 3), true);
    }

    @Sentence("THE CAMERA has a move and a turn, as nodes.")
    static void theLastMovesWithin() {
        for (int axis = 0; axis < 3; axis++) {
            for (int number : new int[] {Due.WIDEST_MOVE, -Due.WIDEST_MOVE}) {
                int[] to = {1, 2, 3};
                to[axis] = number;
                SceneTree tree = Scene.chain(1, 1);
                Check.due("camera(0, ..) with " + number + " on axis " + axis, tree.camera(0, to[0], to[1], to[2]), true);
                Due.model("seen from there:", tree, 0,
                    Due.ONE, 0, 0, -to[0], 0, Due.ONE, 0, -to[1], 0, 0, Due.ONE, -to[2]);
            }
        }
    }

    @Sentence("THE CAMERA has a move and a turn, as nodes.")
    static void theLastTurnsWithin() {
        SceneTree tree = Scene.chain(1, 1);
        for (int axis = 0; axis < 3; axis++) {
            for (int number : new int[] {Due.WIDEST_TURN, -Due.WIDEST_TURN}) {
                int[] to = {0, 0, 0};
                to[axis] = number;
                tree.camera(1, 5, 6, 7);
                Check.due("camera(1, ..) with " + number + " on axis " + axis, tree.camera(1, to[0], to[1], to[2]), true);
                Due.model("whole turns:", tree, 0, Due.ONE, 0, 0, 0, 0, Due.ONE, 0, 0, 0, 0, Due.ONE, 0);
            }
        }
    }

    @Sentence("or it can't be")
    static void theFirstNumbersOutside() {
        for (int what = 0; what < 2; what++) {
            for (int out : new int[] {WIDEST[what] + 1, -WIDEST[what] - 1, Due.LEAST, Due.GREATEST}) {
                aNumberIsRefused(what, out);
            }
        }
        Refusal.byFalse("a turn as wide as a move", Scene.small(), tree -> tree.camera(1, 1, 2, Due.WIDEST_MOVE));
    }

    private static void aNumberIsRefused(int what, int out) {
        String call = "camera(" + what + ", ..) with " + out;
        Refusal.byFalse(call + " as x", Scene.small(), tree -> tree.camera(what, out, 1, 2));
        Refusal.byFalse(call + " as y", Scene.small(), tree -> tree.camera(what, 1, out, 2));
        Refusal.byFalse(call + " as z", Scene.small(), tree -> tree.camera(what, 1, 2, out));
    }

    @Sentence("false if there is no such what")
    static void theFirstWhatsOutside() {
        for (int what : new int[] {-1, 2, 3, Due.LEAST, Due.GREATEST}) {
            Refusal.byFalse("camera(" + what + ", 1, 2, 3)", Scene.small(), tree -> tree.camera(what, 1, 2, 3));
        }
        Refusal.byFalse("a camera has no size", Scene.full(), tree -> tree.camera(2, Due.ONE, Due.ONE, Due.ONE));
    }
}
