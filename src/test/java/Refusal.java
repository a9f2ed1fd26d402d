import java.util.ArrayList;
import java.util.List;
import java.util.function.Predicate;
import java.util.function.ToIntFunction;
import java.util.function.ToLongFunction;

/**
 * A refused call changes nothing: every answer is the same as before it, and the same as on an object that never had
 * the call, at once and after one more call that would bring a leftover to light. No object gets more than 512 calls.
 */
final class Refusal {
    private static final List<Scene.Step> LATER_CALLS = List.of(
        tree -> { },
        tree -> tree.camera(0, 71, -82, 93),
        tree -> tree.camera(1, 310, 220, -130),
        tree -> tree.set(0, 0, 41, 52, 63),
        tree -> tree.set(0, 1, 420, -510, 640),
        tree -> tree.set(0, 2, 60000, 71000, -82000),
        tree -> tree.set(4, 0, 47, 58, 69),
        tree -> tree.hang(4, 0),
        tree -> tree.hang(1, -1),
        tree -> tree.hide(0, true),
        tree -> tree.hide(3, false),
        tree -> tree.add(-1, 1),
        SceneTree::clear);

    private Refusal() {
    }

    /** A question of the face, with the words in which a fault tells it. */
    private record Question(String call, ToIntFunction<SceneTree> ask) {
        long answer(SceneTree tree) {
            return Check.answerOf(() -> ask.applyAsInt(tree));
        }
    }

    static void byFalse(String call, Scene scene, Predicate<SceneTree> refused) {
        check(call, scene, tree -> refused.test(tree) ? 1 : 0, 0);
    }

    static void byNone(String call, Scene scene, ToIntFunction<SceneTree> refused) {
        check(call, scene, refused::applyAsInt, SceneTree.NONE);
    }

    static void byThrowing(String call, Scene scene, ToIntFunction<SceneTree> refused) {
        check(call, scene, tree -> Check.answerOf(() -> refused.applyAsInt(tree)), Check.THROWS);
    }

    private static void check(String call, Scene scene, ToLongFunction<SceneTree> refused, long due) {
        Check.due(call, refused.applyAsLong(scene.made()), due);
        List<Question> questions = questionsOf(scene.made().count());
        int room = (Scene.MOST_CALLS - scene.calls() - 2) / 2;
        for (int from = 0; from < questions.size(); from += room) {
            List<Question> some = questions.subList(from, Math.min(from + room, questions.size()));
            sameAsBefore(call, scene, refused, due, some);
            for (Scene.Step later : LATER_CALLS) {
                sameAsWithout(call, scene, refused, later, some);
            }
        }
    }

    private static void sameAsBefore(
            String call, Scene scene, ToLongFunction<SceneTree> refused, long due, List<Question> some) {
        SceneTree tree = scene.made();
        long[] before = answers(tree, some);
        Check.due(call + " after questions", refused.applyAsLong(tree), due);
        same("before and after " + call, some, answers(tree, some), before);
    }

    private static void sameAsWithout(
            String call, Scene scene, ToLongFunction<SceneTree> refused, Scene.Step later, List<Question> some) {
        SceneTree without = scene.made();
        later.on(without);
        SceneTree with = scene.made();
        refused.applyAsLong(with);
        later.on(with);
        same("with and without " + call + " and then later call " + LATER_CALLS.indexOf(later), some,
            answers(with, some), answers(without, some));
    }

    private static void same(String when, List<Question> some, long[] got, long[] want) {
        for (int k = 0; k < got.length; k++) {
            if (got[k] != want[k]) {
                Check.due(when + ": " + some.get(k).call(), got[k], want[k]);
            }
        }
    }

    private static long[] answers(SceneTree tree, List<Question> some) {
        long[] answers = new long[some.size()];
        for (int k = 0; k < answers.length; k++) {
            answers[k] = some.get(k).answer(tree);
        }
        return answers;
    }

    /** One node and one place in the order more than there are, as a later call may make a node. */
    private static List<Question> questionsOf(int nodes) {
        List<Question> all = new ArrayList<>();
        all.add(new Question("count()", SceneTree::count));
        all.add(new Question("seen()", SceneTree::seen));
        for (int node = 0; node <= nodes; node++) {
            int asked = node;
            all.add(new Question("inOrder(" + asked + ")", tree -> tree.inOrder(asked)));
            for (int k = 0; k < 12; k++) {
                int what = k;
                int i = k / 4;
                int j = k % 4;
                String cell = "(" + asked + ", " + i + ", " + j + ")";
                all.add(new Question("about(" + asked + ", " + what + ")", tree -> tree.about(asked, what)));
                all.add(new Question("world" + cell, tree -> tree.world(asked, i, j)));
                all.add(new Question("model" + cell, tree -> tree.model(asked, i, j)));
            }
        }
        return all;
    }
}
