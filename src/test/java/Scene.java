import java.util.ArrayList;
import java.util.List;

/** A run of calls that is made anew on as many objects as a test needs, as one object is good for 512 calls only. */
final class Scene {
    static final int SMALL = 5;
    static final int FULL = 48;
    static final int MOST_CALLS = 512;

    private final List<Step> steps = new ArrayList<>();

    /** One call of the face. */
    interface Step {
        void on(SceneTree tree);
    }

    Scene then(Step step) {
        steps.add(step);
        return this;
    }

    int calls() {
        return steps.size();
    }

    SceneTree made() {
        SceneTree tree = new SceneTree();
        for (Step step : steps) {
            step.on(tree);
        }
        return tree;
    }

    static Scene fresh() {
        return new Scene();
    }

    /** Five nodes, one of them hidden, and a camera, with numbers that no refused call of a test has. */
    static Scene small() {
        return fresh()
            .then(tree -> tree.add(-1, 1))
            .then(tree -> tree.add(0, 2))
            .then(tree -> tree.add(1, 0))
            .then(tree -> tree.add(0, 1))
            .then(tree -> tree.add(-1, 2))
            .then(tree -> tree.set(0, 0, 100000, -200001, 300003))
            .then(tree -> tree.set(0, 1, 137, -911, 2503))
            .then(tree -> tree.set(0, 2, 70001, -50003, 131079))
            .then(tree -> tree.set(1, 0, -7777, 65537, -123457))
            .then(tree -> tree.set(1, 1, -3001, 555, 99))
            .then(tree -> tree.set(2, 2, 65537, 32767, -65539))
            .then(tree -> tree.set(4, 0, 2222, 3333, 4444))
            .then(tree -> tree.hide(3, true))
            .then(tree -> tree.camera(0, 54321, -98765, 400001))
            .then(tree -> tree.camera(1, 611, -1303, 77));
    }

    /** As many nodes as there can be, a chain of 24 and others that hang here and there in it. */
    static Scene full() {
        Scene scene = fresh();
        for (int node = 0; node < FULL; node++) {
            int number = node;
            scene.then(tree -> tree.add(number < 24 ? number - 1 : number / 2, (number + 1) % 3));
            scene.then(tree -> tree.set(number, 0, 3000 * number, -20000 - number, 90000 - 5000 * number));
            if (node % 4 == 0) {
                scene.then(tree -> tree.set(number, 1, 100 + 7 * number, -40 * number, 33));
            }
            if (node % 6 == 0) {
                scene.then(tree -> tree.set(number, 2, 65000 + 10 * number, 67000, -66000));
            }
        }
        return scene
            .then(tree -> tree.hide(30, true))
            .then(tree -> tree.camera(0, 54321, -98765, 400001))
            .then(tree -> tree.camera(1, 611, -1303, 77));
    }

    /** Each node hangs at the one before it. */
    static SceneTree chain(int nodes, int kind) {
        SceneTree tree = new SceneTree();
        for (int node = 0; node < nodes; node++) {
            tree.add(node - 1, kind);
        }
        return tree;
    }

    /** Two nodes and a camera with numbers that make every rounding count. */
    static SceneTree crooked() {
        SceneTree tree = chain(2, 1);
        tree.set(0, 0, 100000, -200001, 300003);
        tree.set(0, 1, 137, -911, 2503);
        tree.set(0, 2, 70001, -50003, 131079);
        tree.set(1, 0, -7, 65537, -123457);
        tree.set(1, 1, -3001, 555, 99);
        tree.set(1, 2, 65536, 32767, -65537);
        tree.camera(0, 54321, -98765, 400001);
        tree.camera(1, 611, -1303, 77);
        return tree;
    }

    static Scene cleared() {
        return small().then(SceneTree::clear);
    }
}
