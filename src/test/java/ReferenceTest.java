import java.math.BigInteger;
import java.util.ArrayList;
import java.util.Comparator;
import java.util.List;
import java.util.NoSuchElementException;
import java.util.Random;

/** Runs of 512 mixed calls, each answer against a second, slow reading of the document that keeps nothing worked out. */
public final class ReferenceTest {
    private static final int RUNS = 150;
    private static final int CALLS = 512;
    private static final int[] EDGES = {
        0, 1, -1, -2, 65536, -65536, 1048576, -1048576, 1048577, -1048577, 4194304, -4194304, 4194305, -4194305,
        Integer.MAX_VALUE, Integer.MIN_VALUE,
    };

    public static void main(String[] args) {
        for (int run = 0; run < RUNS; run++) {
            runOfCalls(run);
        }
        Check.finish("ReferenceTest");
    }

    private static void runOfCalls(int run) {
        Random dice = new Random(run);
        SceneTree tree = new SceneTree();
        Plain plain = new Plain();
        int adds = 1 + dice.nextInt(9);
        for (int call = 0; call < CALLS; call++) {
            oneCall("run " + run + " call " + call + ": ", dice, tree, plain, adds);
        }
    }

    private static void oneCall(String at, Random dice, SceneTree tree, Plain plain, int adds) {
        int dealt = dice.nextInt(33 + adds);
        int node = near(dice, plain.nodes.size());
        if (dealt < 6) {
            int what = dice.nextInt(20) == 0 ? 3 - 4 * dice.nextInt(2) : dice.nextInt(3);
            int[] to = three(dice, what);
            Check.due(at + "set", tree.set(node, what, to[0], to[1], to[2]), plain.set(node, what, to));
        } else if (dealt < 9) {
            int parent = dice.nextInt(3) == 0 ? -1 : near(dice, node + 1);
            Check.due(at + "hang", tree.hang(node, parent), plain.hang(node, parent));
        } else if (dealt < 11) {
            boolean is = dice.nextInt(3) == 0;
            Check.due(at + "hide", tree.hide(node, is), plain.hide(node, is));
        } else if (dealt < 13) {
            int what = dice.nextInt(20) == 0 ? 2 - 3 * dice.nextInt(2) : dice.nextInt(2);
            int[] to = three(dice, what);
            Check.due(at + "camera", tree.camera(what, to[0], to[1], to[2]), plain.camera(what, to));
        } else if (dealt < 24) {
            int i = near(dice, 3);
            int j = near(dice, 4);
            if (dice.nextBoolean()) {
                Check.due(at + "world", () -> tree.world(node, i, j), Check.answerOf(() -> plain.world(node, i, j)));
            } else {
                Check.due(at + "model", () -> tree.model(node, i, j), Check.answerOf(() -> plain.model(node, i, j)));
            }
        } else if (dealt < 28) {
            int what = near(dice, 12);
            Check.due(at + "about", () -> tree.about(node, what), Check.answerOf(() -> plain.about(node, what)));
        } else if (dealt < 29) {
            Check.due(at + "seen", tree.seen(), plain.seen());
        } else if (dealt < 31) {
            int k = near(dice, plain.seen());
            Check.due(at + "inOrder(" + k + ")", tree.inOrder(k), plain.inOrder(k));
        } else if (dealt < 32) {
            Check.due(at + "count", tree.count(), plain.nodes.size());
        } else if (dealt < 33) {
            if (dice.nextInt(12) == 0) {
                tree.clear();
                plain.nodes.clear();
            }
        } else {
            int parent = dice.nextInt(3) == 0 ? -1 : near(dice, plain.nodes.size());
            int kind = near(dice, 3);
            Check.due(at + "add", tree.add(parent, kind), plain.add(parent, kind));
        }
    }

    /** Mostly 0 .. below - 1, now and then just outside of it. */
    private static int near(Random dice, int below) {
        int dealt = dice.nextInt(24);
        if (dealt == 0 || below <= 0) {
            return dice.nextBoolean() ? -1 : Math.max(below, 0);
        }
        return dealt == 1 ? EDGES[dice.nextInt(EDGES.length)] : dice.nextInt(below);
    }

    private static int[] three(Random dice, int what) {
        int[] to = new int[3];
        int reach = what == 0 ? 4194304 : dice.nextBoolean() ? 200000 : 1048576;
        for (int i = 0; i < 3; i++) {
            to[i] = dice.nextInt(40) == 0 ? EDGES[dice.nextInt(EDGES.length)] : dice.nextInt(2 * reach + 1) - reach;
        }
        return to;
    }

    /** A node as the document tells it. */
    private static final class PlainNode {
        int parent;
        int kind;
        boolean hidden;
        int[][] numbers = {{0, 0, 0}, {0, 0, 0}, {65536, 65536, 65536}};
    }

    /** The document, word by word, over numbers without a limit. */
    private static final class Plain {
        final List<PlainNode> nodes = new ArrayList<>();
        final int[][] camera = {{0, 0, 0}, {0, 0, 0}};

        int add(int parent, int kind) {
            if (nodes.size() == 48 || parent != -1 && !has(parent) || kind != 0 && kind != 1 && kind != 2) {
                return -1;
            }
            PlainNode node = new PlainNode();
            node.parent = parent;
            node.kind = kind;
            nodes.add(node);
            return nodes.size() - 1;
        }

        boolean set(int node, int what, int[] to) {
            if (!has(node) || what < 0 || what > 2 || !fits(what, to)) {
                return false;
            }
            nodes.get(node).numbers[what] = to;
            return true;
        }

        boolean hang(int node, int parent) {
            if (!has(node) || parent != -1 && (!has(parent) || parent >= node)) {
                return false;
            }
            nodes.get(node).parent = parent;
            return true;
        }

        boolean hide(int node, boolean is) {
            if (!has(node)) {
                return false;
            }
            nodes.get(node).hidden = is;
            return true;
        }

        boolean camera(int what, int[] to) {
            if (what < 0 || what > 1 || !fits(what, to)) {
                return false;
            }
            camera[what] = to;
            return true;
        }

        int world(int node, int i, int j) {
            mustHave(has(node) && i >= 0 && i < 3 && j >= 0 && j < 4);
            return worldOf(node)[i][j].intValueExact();
        }

        int model(int node, int i, int j) {
            mustHave(has(node) && i >= 0 && i < 3 && j >= 0 && j < 4);
            return modelOf(node)[i][j].intValueExact();
        }

        int seen() {
            return order().size();
        }

        int inOrder(int k) {
            List<Integer> order = order();
            return k >= 0 && k < order.size() ? order.get(k) : -1;
        }

        int about(int number, int what) {
            mustHave(has(number) && what >= 0 && what < 12);
            PlainNode node = nodes.get(number);
            return what == 0 ? node.parent : what == 1 ? node.kind : what == 2 ? (node.hidden ? 1 : 0)
                : node.numbers[what / 3 - 1][what % 3];
        }

        private boolean has(int node) {
            return node >= 0 && node < nodes.size();
        }

        private static void mustHave(boolean is) {
            if (!is) {
                throw new NoSuchElementException();
            }
        }

        private static boolean fits(int what, int[] to) {
            long widest = what == 0 ? 4194304 : 1048576;
            return Math.abs((long) to[0]) <= widest && Math.abs((long) to[1]) <= widest && Math.abs((long) to[2]) <= widest;
        }

        private boolean isSeen(int node) {
            boolean hidden = false;
            for (int at = node; at != -1; at = nodes.get(at).parent) {
                hidden |= nodes.get(at).hidden;
            }
            return nodes.get(node).kind != 0 && !hidden;
        }

        private List<Integer> order() {
            List<Integer> solid = new ArrayList<>();
            List<Integer> clear = new ArrayList<>();
            BigInteger[] depths = new BigInteger[nodes.size()];
            for (int node = 0; node < nodes.size(); node++) {
                if (isSeen(node)) {
                    depths[node] = modelOf(node)[2][3];
                    (nodes.get(node).kind == 1 ? solid : clear).add(node);
                }
            }
            Comparator<Integer> leastFirst = Comparator.comparing(node -> depths[node]);
            solid.sort(leastFirst.thenComparing(node -> node));
            clear.sort(leastFirst.reversed().thenComparing(node -> node));
            solid.addAll(clear);
            return solid;
        }

        private BigInteger[][] modelOf(int node) {
            BigInteger[][] turn = turn(camera[1]);
            BigInteger[][] view = new BigInteger[3][4];
            for (int i = 0; i < 3; i++) {
                BigInteger sum = BigInteger.ZERO;
                for (int j = 0; j < 3; j++) {
                    view[i][j] = turn[j][i];
                    sum = sum.add(mul(view[i][j], big(camera[0][j])));
                }
                view[i][3] = bound(sum.negate());
            }
            return times(view, worldOf(node));
        }

        private BigInteger[][] worldOf(int node) {
            int parent = nodes.get(node).parent;
            return parent == -1 ? localOf(node) : times(worldOf(parent), localOf(node));
        }

        private BigInteger[][] localOf(int node) {
            int[][] numbers = nodes.get(node).numbers;
            BigInteger[][] local = turn(numbers[1]);
            for (int i = 0; i < 3; i++) {
                for (int j = 0; j < 3; j++) {
                    local[i][j] = bound(mul(local[i][j], big(numbers[2][j])));
                }
                local[i][3] = big(numbers[0][i]);
            }
            return local;
        }

        private static BigInteger[][] turn(int[] by) {
            int sx = sin(by[0]);
            int cx = sin(by[0] + 1024);
            int sy = sin(by[1]);
            int cy = sin(by[1] + 1024);
            int sz = sin(by[2]);
            int cz = sin(by[2] + 1024);
            BigInteger[][] x = matrix(65536, 0, 0, 0, cx, -sx, 0, sx, cx);
            BigInteger[][] y = matrix(cy, 0, sy, 0, 65536, 0, -sy, 0, cy);
            BigInteger[][] z = matrix(cz, -sz, 0, sz, cz, 0, 0, 0, 65536);
            return times(times(y, x), z);
        }

        private static int sin(int k) {
            int angle = (k % 4096 + 4096) % 4096;
            if (angle >= 2048) {
                return -sin(angle - 2048);
            }
            BigInteger p = big(angle).multiply(big(2048 - angle));
            return div(big(1048576).multiply(p), big(20971520).subtract(big(4).multiply(p))).intValueExact();
        }

        private static BigInteger[][] matrix(int... cells) {
            BigInteger[][] made = new BigInteger[3][4];
            for (int i = 0; i < 3; i++) {
                for (int j = 0; j < 4; j++) {
                    made[i][j] = j == 3 ? BigInteger.ZERO : big(cells[3 * i + j]);
                }
            }
            return made;
        }

        private static BigInteger[][] times(BigInteger[][] a, BigInteger[][] b) {
            BigInteger[][] made = new BigInteger[3][4];
            for (int i = 0; i < 3; i++) {
                for (int j = 0; j < 4; j++) {
                    BigInteger sum = mul(a[i][0], b[0][j]).add(mul(a[i][1], b[1][j])).add(mul(a[i][2], b[2][j]));
                    made[i][j] = bound(j == 3 ? sum.add(a[i][3]) : sum);
                }
            }
            return made;
        }

        private static BigInteger mul(BigInteger a, BigInteger b) {
            return div(a.multiply(b), big(65536));
        }

        /** Only ever by a number above 0. */
        private static BigInteger div(BigInteger a, BigInteger b) {
            return a.subtract(a.mod(b)).divide(b);
        }

        private static BigInteger bound(BigInteger v) {
            return v.max(big(-16777216)).min(big(16777216));
        }

        private static BigInteger big(int v) {
            return BigInteger.valueOf(v);
        }
    }
}
