import java.util.Random;

/** What holds for a whole run of calls: how many an object is good for, and that its answers hang on them alone. */
public final class CallsTest {
    private static final int[] EDGES = {
        0, 1, 2, 3, 4, 11, 12, 46, 47, 48, -1, -2, 4194304, -4194304, 4194305, 1048576, -1048577, Due.LEAST, Due.GREATEST,
    };

    public static void main(String[] args) {
        Check.run("Runs of calls", CallsTest.class);
    }

    /** 48 calls that add and 463 that move the last node, each one further. */
    private static SceneTree after511Calls() {
        SceneTree tree = new SceneTree();
        for (int node = 0; node < 48; node++) {
            tree.add(-1, 1);
        }
        for (int call = 48; call < 511; call++) {
            tree.set(47, 0, call, -call, 2 * call);
        }
        return tree;
    }

    @Sentence("An object is used for at most 512 calls after it has been made")
    static void the512thCallChanges() {
        Check.due("add", after511Calls().add(-1, 1), SceneTree.NONE);
        Check.due("set", after511Calls().set(47, 2, 1, 2, 3), true);
        Check.due("hang", after511Calls().hang(47, 46), true);
        Check.due("hide", after511Calls().hide(47, true), true);
        Check.due("camera", after511Calls().camera(1, 1, 2, 3), true);
        after511Calls().clear();
    }

    @Sentence("An object is used for at most 512 calls after it has been made")
    static void the512thCallAsks() {
        Check.due("world", after511Calls().world(47, 0, 3), 510);
        Check.due("model", after511Calls().model(47, 1, 3), -510);
        Check.due("seen", after511Calls().seen(), 48);
        Check.due("inOrder", after511Calls().inOrder(47), 47);
        Check.due("about", after511Calls().about(47, 5), 1020);
        Check.due("count", after511Calls().count(), 48);
        SceneTree tree = after511Calls();
        Check.due("world of none", () -> tree.world(48, 0, 0), Check.THROWS);
    }

    @Sentence("An object is used for at most 512 calls after it has been made")
    static void fullAndClearedTenTimes() {
        SceneTree tree = new SceneTree();
        for (int time = 0; time < 10; time++) {
            for (int node = 0; node < 48; node++) {
                Check.due("add, time " + time, tree.add(node - 1, 1), node);
            }
            tree.clear();
        }
        for (int node = 0; node < 22; node++) {
            Check.due("add, call " + (491 + node), tree.add(-1, 2), node);
        }
    }

    @Sentence("An object is used for at most 512 calls after it has been made")
    static void refusedAndThrownCallsCountAsOthers() {
        SceneTree tree = new SceneTree();
        for (int call = 0; call < 170; call++) {
            Check.due("add", tree.add(0, 1), SceneTree.NONE);
            Check.due("set", tree.set(0, 0, 0, 0, 0), false);
            Check.due("world", () -> tree.world(0, 0, 0), Check.THROWS);
        }
        Check.due("add, call 511", tree.add(-1, 1), 0);
        Check.due("world, call 512", () -> tree.world(0, 0, 0), Due.ONE);
    }

    /** The answers are free, but by rule 7 of the language no call may throw by itself or fail to end. */
    @Sentence("what later calls answer is free")
    static void laterCallsThrowNothingElse() {
        Random dice = new Random(512);
        SceneTree tree = new SceneTree();
        for (int call = 0; call < 20000; call++) {
            anyCall(dice, tree);
        }
    }

    @Sentence("the same calls always give the same answers")
    static void theSameCallsGiveTheSameAnswers() {
        SceneTree one = Scene.full().made();
        SceneTree other = Scene.full().made();
        for (int node = 0; node < 48; node++) {
            Check.due("model(" + node + ", 2, 3)", one.model(node, 2, 3), other.model(node, 2, 3));
            Check.due("inOrder(" + node + ")", one.inOrder(node), other.inOrder(node));
        }
    }

    private static void anyCall(Random dice, SceneTree tree) {
        int a = EDGES[dice.nextInt(EDGES.length)];
        int b = EDGES[dice.nextInt(EDGES.length)];
        int c = EDGES[dice.nextInt(EDGES.length)];
        switch (dice.nextInt(12)) {
            case 0 -> tree.set(a, b, c, c, c);
            case 1 -> tree.hang(a, b);
            case 2 -> tree.hide(a, dice.nextBoolean());
            case 3 -> tree.camera(a, b, c, c);
            case 4 -> Check.answerOf(() -> tree.world(a, b, c));
            case 5 -> Check.answerOf(() -> tree.model(a, b, c));
            case 6 -> tree.seen();
            case 7 -> tree.inOrder(a);
            case 8 -> Check.answerOf(() -> tree.about(a, b));
            case 9 -> tree.count();
            case 10 -> clearNowAndThen(dice, tree);
            default -> tree.add(dice.nextBoolean() ? -1 : a, b);
        }
    }

    private static void clearNowAndThen(Random dice, SceneTree tree) {
        if (dice.nextInt(30) == 0) {
            tree.clear();
        }
    }
}
