/** The terms of the document: how it divides, bounds, turns and multiplies. */
public final class TermsTest {
    private static final int[][] AXES = {{1, 0, 0}, {0, 1, 0}, {0, 0, 1}};

    public static void main(String[] args) {
        Check.run("Terms", TermsTest.class);
    }

    @Sentence("NUMBERS are ints")
    static void numbersAreKeptToTheLastUnit() {
        int[] widest = {Due.WIDEST_MOVE, Due.WIDEST_TURN, Due.WIDEST_SIZE};
        for (int what = 0; what < 3; what++) {
            for (int power = 1; power < widest[what]; power *= 2) {
                SceneTree tree = Scene.chain(1, 1);
                tree.set(0, what, power - 1, -power, power + 1);
                Check.due("what " + what + ", x", tree.about(0, 3 + 3 * what), power - 1);
                Check.due("what " + what + ", y", tree.about(0, 4 + 3 * what), -power);
                Check.due("what " + what + ", z", tree.about(0, 5 + 3 * what), power + 1);
            }
        }
    }

    @Sentence("a FIXED one counts 65,536ths.")
    static void aSizeOf65536IsOne() {
        int[][] due = {{65536, 1000}, {32768, 500}, {131072, 2000}, {-65536, -1000}, {1048576, 16000}, {0, 0}};
        for (int[] row : due) {
            SceneTree tree = Scene.chain(2, 1);
            tree.set(0, 2, row[0], row[0], row[0]);
            tree.set(1, 0, 1000, 1000, 1000);
            dueMoves("1000 under size " + row[0] + ":", tree, 1, row[1], row[1], row[1]);
        }
    }

    @Sentence("MUL(a, b) is DIV(a * b, 65536).")
    static void mulOfWideNumbers() {
        int[][] due = {
            {98304, 3, 4}, {98304, -3, -5}, {-98304, 3, -5}, {-98304, -3, 4}, {32768, 1, 0}, {32768, -1, -1},
            {1048576, 1048575, 16777200}, {-1048576, 1048575, -16777200}, {1048575, 1048575, 16777184},
            {-1048575, 1048575, -16777185}, {1048575, -1048575, -16777185}, {-1048575, -1048575, 16777184},
            {3, 4194304, 192}, {3, -4194303, -192}, {-3, 4194303, -192},
        };
        for (int[] row : due) {
            SceneTree tree = Scene.chain(2, 1);
            tree.set(0, 2, row[0], row[0], row[0]);
            tree.set(1, 0, row[1], row[1], row[1]);
            dueMoves("MUL(" + row[0] + ", " + row[1] + "):", tree, 1, row[2], row[2], row[2]);
        }
    }

    /** Without turns a size stands in the matrix as it is, so the node below is moved by MUL(size, move). */
    @Sentence("DIV(a, b): the greatest whole number that is not above a / b.")
    static void divOfNumbersBelow0() {
        int[][] due = {
            {1, 0, 0}, {1, 1, 0}, {1, 65535, 0}, {1, 65536, 1}, {1, 65537, 1},
            {1, -1, -1}, {1, -65535, -1}, {1, -65536, -1}, {1, -65537, -2},
            {-1, 1, -1}, {-1, 65535, -1}, {-1, 65536, -1}, {-1, 65537, -2},
            {-1, -1, 0}, {-1, -65535, 0}, {-1, -65536, 1}, {-1, -65537, 1}, {0, -1, 0},
        };
        for (int[] row : due) {
            SceneTree tree = Scene.chain(2, 1);
            tree.set(0, 2, row[0], row[0], row[0]);
            tree.set(1, 0, row[1], row[1], row[1]);
            for (int i = 0; i < 3; i++) {
                Check.due("MUL(" + row[0] + ", " + row[1] + ") at row " + i, tree.world(1, i, 3), row[2]);
            }
        }
    }

    @Sentence("LOCAL of a node: at i, j below 3 BOUND(MUL(T at i, j, size j))")
    static void divOfTurnAndSize() {
        SceneTree tree = Scene.chain(1, 1);
        tree.set(0, 1, 0, 0, 1);
        tree.set(0, 2, 1, 1, 1);
        Due.world("size 1:", tree, 0, 0, -1, 0, 0, 0, 0, 0, 0, 0, 0, 1, 0);
        tree.set(0, 2, -1, -1, -1);
        Due.world("size -1:", tree, 0, -1, 0, 0, 0, -1, -1, 0, 0, 0, 0, -1, 0);
        tree.set(0, 2, 65536, -65536, 65537);
        Due.world("a size for each column:", tree, 0, 65535, 102, 0, 0, 102, -65535, 0, 0, 0, 0, 65537, 0);
    }

    @Sentence("TURN(a, b, c) = (Y(b) * X(a)) * Z(c), all with 0 in their fourth column")
    static void divOfTurns() {
        SceneTree tree = Scene.chain(1, 1);
        tree.set(0, 1, 1, -1, 1);
        Due.world("1 -1 1:", tree, 0, 65533, -103, -102, 0, 101, 65534, -102, 0, 101, 99, 65534, 0);
        tree.set(0, 1, -1, -1, -1);
        Due.world("-1 -1 -1:", tree, 0, 65534, 101, -102, 0, -102, 65534, 102, 0, 101, -102, 65534, 0);
    }

    @Sentence("at i, 3 BOUND(-(MUL(Vi0, mx) + MUL(Vi1, my) + MUL(Vi2, mz)))")
    static void divOfTheViewComesBeforeItsSign() {
        SceneTree tree = Scene.chain(1, 1);
        tree.camera(1, 0, 0, 1);
        tree.camera(0, 1, 0, 0);
        Due.model("1 0 0:", tree, 0, 65535, 102, 0, 0, -102, 65535, 0, 1, 0, 0, 65536, 0);
        tree.camera(0, -1, -1, 0);
        Due.model("-1 -1 0:", tree, 0, 65535, 102, 0, 2, -102, 65535, 0, 1, 0, 0, 65536, 0);
        tree.camera(1, 577, 681, 136);
        tree.camera(0, -1, -1, -1);
        Due.model("-1 -1 -1:", tree, 0, 41315, 8649, -50046, 2, 35895, 40528, 36681, 3, 35784, -50635, 20809, 2);
    }

    @Sentence("(A * B) at i, j is BOUND(MUL(Ai0, B0j) + MUL(Ai1, B1j) + MUL(Ai2, B2j) + (Ai3, if j is 3))")
    static void divOfEachProductByItself() {
        SceneTree tree = Scene.chain(2, 1);
        tree.set(0, 1, 577, 681, 136);
        tree.set(1, 0, -1, -1, -1);
        dueMoves("-1 -1 -1:", tree, 1, -3, -2, -2);
        tree.set(1, 0, 1, 1, 1);
        dueMoves("1 1 1:", tree, 1, 0, -1, -1);
    }

    @Sentence("(A * B) at i, j is BOUND(MUL(Ai0, B0j) + MUL(Ai1, B1j) + MUL(Ai2, B2j) + (Ai3, if j is 3))")
    static void theFourthColumnCountsInTheFourthColumnOnly() {
        SceneTree tree = Scene.chain(2, 1);
        tree.set(0, 0, 1000, 2000, 3000);
        tree.set(1, 0, 10, 20, 30);
        Due.world("two moves:", tree, 1, 65536, 0, 0, 1010, 0, 65536, 0, 2020, 0, 0, 65536, 3030);
        tree.camera(0, 1, 2, 3);
        Due.model("two moves:", tree, 1, 65536, 0, 0, 1009, 0, 65536, 0, 2018, 0, 0, 65536, 3027);
    }

    private static void dueMoves(String of, SceneTree tree, int node, int... want) {
        for (int i = 0; i < 3; i++) {
            Check.due(of + " world(" + node + ", " + i + ", 3)", tree.world(node, i, 3), want[i]);
        }
    }

    /** Four of the widest moves reach BOUND; the last one is set so that it is just missed, met and passed. */
    @Sentence("BOUND(v) is the nearest of -16777216 .. 16777216.")
    static void boundOfMovesInWorld() {
        int[][] due = {
            {Due.WIDEST_MOVE - 1, 0, Due.BOUND - 1}, {Due.WIDEST_MOVE, 0, Due.BOUND},
            {Due.WIDEST_MOVE, 1, Due.BOUND}, {Due.WIDEST_MOVE, Due.WIDEST_MOVE, Due.BOUND},
            {Due.WIDEST_MOVE, -1, Due.BOUND - 1},
        };
        for (int[] row : due) {
            SceneTree tree = Scene.chain(5, 1);
            for (int node = 0; node < 3; node++) {
                tree.set(node, 0, Due.WIDEST_MOVE, -Due.WIDEST_MOVE, 0);
            }
            tree.set(3, 0, row[0], -row[0], 0);
            tree.set(4, 0, row[1], -row[1], 0);
            dueMoves("4th move " + row[0] + ", 5th move " + row[1] + ":", tree, 4, row[2], -row[2], 0);
        }
    }

    /** 16 * b * c, in 65,536ths: the pairs are chosen so that BOUND is just missed, met and passed on either side. */
    @Sentence("BOUND(v) is the nearest of -16777216 .. 16777216.")
    static void boundOfSizesInWorld() {
        int[][] due = {
            {262080, 262208, Due.BOUND - 1, 1 - Due.BOUND},
            {262143, 262145, Due.BOUND - 1, -Due.BOUND},
            {262144, 262144, Due.BOUND, -Due.BOUND},
            {262653, 261636, Due.BOUND, -Due.BOUND},
            {262649, 261640, Due.BOUND, -Due.BOUND},
            {1048576, 1048576, Due.BOUND, -Due.BOUND},
        };
        for (int[] row : due) {
            SceneTree tree = Scene.chain(3, 1);
            tree.set(0, 2, Due.WIDEST_SIZE, -Due.WIDEST_SIZE, Due.WIDEST_SIZE);
            tree.set(1, 2, row[0], row[0], 0);
            tree.set(2, 2, row[1], row[1], row[1]);
            String of = "16 * " + row[0] + " * " + row[1];
            Check.due(of, tree.world(2, 0, 0), row[2]);
            Check.due("-" + of, tree.world(2, 1, 1), row[3]);
            Check.due("a size of 0", tree.world(2, 2, 2), 0);
        }
    }

    @Sentence("BOUND(v) is the nearest of -16777216 .. 16777216.")
    static void boundOfMovesInModel() {
        SceneTree tree = Scene.chain(4, 1);
        for (int node = 0; node < 4; node++) {
            tree.set(node, 0, Due.WIDEST_MOVE, -Due.WIDEST_MOVE, Due.WIDEST_MOVE);
        }
        int[][] due = {
            {1, -1, 1, Due.BOUND - 1}, {0, 0, 0, Due.BOUND}, {-1, 1, -1, Due.BOUND},
            {-Due.WIDEST_MOVE, Due.WIDEST_MOVE, -Due.WIDEST_MOVE, Due.BOUND},
        };
        for (int[] row : due) {
            tree.camera(0, row[0], row[1], row[2]);
            Check.due("camera at " + row[0], tree.model(3, 0, 3), row[3]);
            Check.due("camera at " + row[1], tree.model(3, 1, 3), -row[3]);
            Check.due("camera at " + row[2], tree.model(3, 2, 3), row[3]);
        }
    }

    @Sentence("BOUND(v) is the nearest of -16777216 .. 16777216.")
    static void boundOfSizesInModel() {
        SceneTree tree = Scene.chain(3, 1);
        tree.set(0, 2, Due.WIDEST_SIZE, Due.WIDEST_SIZE, Due.WIDEST_SIZE);
        tree.set(1, 2, Due.WIDEST_SIZE, Due.WIDEST_SIZE, Due.WIDEST_SIZE);
        tree.set(2, 2, 70000, 70000, 70000);
        tree.set(1, 1, 0, 0, 512);
        tree.camera(1, 0, 0, 512);
        Due.model("turned back:", tree, 2, Due.BOUND, -2, 0, 0, -1, Due.BOUND, 0, 0, 0, 0, Due.BOUND, 0);
        tree.camera(1, 0, 0, 2560);
        Due.model("turned on:", tree, 2, -Due.BOUND, 0, 0, 0, -1, -Due.BOUND, 0, 0, 0, 0, Due.BOUND, 0);
    }

    @Sentence("(A * B) at i, j is BOUND(MUL(Ai0, B0j) + MUL(Ai1, B1j) + MUL(Ai2, B2j) + (Ai3, if j is 3))")
    static void boundIsTakenOfTheWholeSum() {
        SceneTree tree = Scene.chain(2, 1);
        tree.set(0, 1, 0, 0, 512);
        tree.set(0, 2, Due.WIDEST_SIZE, Due.WIDEST_SIZE, Due.WIDEST_SIZE);
        tree.set(1, 0, 4194304, 3194304, 0);
        dueMoves("47370240 - 36076295:", tree, 1, 11293945, Due.BOUND, 0);
        tree.set(0, 1, 0, 0, 0);
        tree.set(0, 0, -Due.WIDEST_MOVE, Due.WIDEST_MOVE, 0);
        tree.set(1, 0, Due.WIDEST_MOVE, -Due.WIDEST_MOVE, 0);
        dueMoves("16 moves less one:", tree, 1, Due.BOUND, -Due.BOUND, 0);
    }

    @Sentence("WORLD is its parent's WORLD * LOCAL")
    static void boundIsTakenAtEachNode() {
        SceneTree tree = Scene.chain(7, 1);
        for (int node = 0; node < 6; node++) {
            tree.set(node, 0, Due.WIDEST_MOVE, -Due.WIDEST_MOVE, 0);
        }
        tree.set(6, 0, -Due.WIDEST_MOVE, Due.WIDEST_MOVE, 0);
        dueMoves("six moves and one back:", tree, 6, 3 * Due.WIDEST_MOVE, -3 * Due.WIDEST_MOVE, 0);
    }

    /** Three sizes of 16 with turns between them put BOUND at all nine places, so a move is 3 * 2^30 before BOUND. */
    @Sentence("(All is worked out in longs.)")
    static void sumsBeyondAnInt() {
        SceneTree tree = Scene.chain(4, 1);
        for (int node = 0; node < 3; node++) {
            tree.set(node, 2, Due.WIDEST_SIZE, Due.WIDEST_SIZE, Due.WIDEST_SIZE);
        }
        tree.set(1, 1, 512, 512, 512);
        tree.set(2, 1, 300, 0, 0);
        int b = Due.BOUND;
        int m = Due.WIDEST_MOVE;
        Due.world("all at BOUND:", tree, 2, b, b, b, 0, b, b, -b, 0, -b, b, b, 0);
        tree.set(3, 0, m, m, m);
        dueMoves("m m m:", tree, 3, b, b, b);
        tree.set(3, 0, -m, -m, -m);
        dueMoves("-m -m -m:", tree, 3, -b, -b, -b);
        tree.set(3, 0, m, m, -m);
        dueMoves("m m -m:", tree, 3, b, b, -b);
        tree.set(3, 0, -m, m, m);
        dueMoves("-m m m:", tree, 3, b, -b, b);
    }

    /** A node turned about z alone shows SIN and COS as they are; these are the document's formula worked out by hand. */
    @Sentence("SIN(k), k in 4,096ths of a turn, modulo 4,096")
    static void sinAtItsEdges() {
        int[][] due = {
            {0, 0}, {1, 102}, {2, 204}, {300, 29134}, {512, 46260}, {1023, 65535}, {1024, 65536}, {1025, 65535},
            {1500, 48741}, {2047, 102}, {2048, 0}, {2049, -102}, {3000, -65131}, {3072, -65536}, {4095, -102},
            {4096, 0}, {4097, 102}, {5120, 65536}, {-1, -102}, {-700, -57535}, {-1024, -65536}, {-2048, 0},
            {-2049, 102}, {-4095, 102}, {-4096, 0}, {-4097, -102}, {1048575, -102}, {1048576, 0},
            {-1048575, 102}, {-1048576, 0},
        };
        for (int[] row : due) {
            SceneTree tree = Scene.chain(1, 1);
            tree.set(0, 1, 0, 0, row[0]);
            Check.due("SIN(" + row[0] + ")", tree.world(0, 1, 0), row[1]);
            Check.due("-SIN(" + row[0] + ")", tree.world(0, 0, 1), -row[1]);
            if (row[0] >= -1047552) {
                tree.set(0, 1, 0, 0, row[0] - 1024);
                Check.due("COS(" + row[0] + " - 1024)", tree.world(0, 0, 0), row[1]);
            }
        }
    }

    @Sentence("for k below 2,048, with p = k * (2048 - k), DIV(1048576 * p, 20971520 - 4 * p); else - SIN(k - 2048)")
    static void sinOfEachK() {
        for (int k = -4096; k <= 8192; k++) {
            SceneTree tree = Scene.chain(1, 1);
            tree.set(0, 1, 0, 0, k);
            Check.due("SIN(" + k + ")", tree.world(0, 1, 0), sin(k));
            Check.due("COS(" + k + ")", tree.world(0, 0, 0), sin(k + 1024));
        }
    }

    private static long sin(int k) {
        long at = ((k % 4096) + 4096) % 4096;
        long p = (at % 2048) * (2048 - at % 2048);
        long height = 1048576 * p / (20971520 - 4 * p);
        return at < 2048 ? height : -height;
    }

    @Sentence("COS(k) = SIN(k + 1024)")
    static void cosAtItsEdges() {
        int[][] due = {
            {0, 65536}, {1, 65535}, {1023, 102}, {1024, 0}, {1025, -102}, {2048, -65536}, {3071, -102}, {3072, 0},
            {3073, 102}, {4095, 65535}, {4096, 65536}, {-1, 65535}, {-1023, 102}, {-1024, 0}, {-1025, -102},
            {-3072, 0}, {-3073, 102}, {1048576, 65536}, {-1048576, 65536}, {1048575, 65535}, {-1048575, 65535},
        };
        for (int[] row : due) {
            SceneTree tree = Scene.chain(1, 1);
            tree.set(0, 1, 0, 0, row[0]);
            Check.due("COS(" + row[0] + ")", tree.world(0, 0, 0), row[1]);
        }
    }

    @Sentence("X: 1 0 0, 0 C -S, 0 S C; Y: C 0 S, 0 1 0, -S 0 C; Z: C -S 0, S C 0, 0 0 1")
    static void theThreeTurns() {
        SceneTree tree = Scene.chain(1, 1);
        tree.set(0, 1, 300, 0, 0);
        int s = 29134;
        int c = 58652;
        Due.world("X:", tree, 0, 65536, 0, 0, 0, 0, c, -s, 0, 0, s, c, 0);
        tree.set(0, 1, 0, 300, 0);
        Due.world("Y:", tree, 0, c, 0, s, 0, 0, 65536, 0, 0, -s, 0, c, 0);
        tree.set(0, 1, 0, 0, 300);
        Due.world("Z:", tree, 0, c, -s, 0, 0, s, c, 0, 0, 0, 0, 65536, 0);
    }

    /** One number for each axis, so that none can be taken for another's. */
    @Sentence("(S = SIN, C = COS of it; 1 is 65536)")
    static void eachTurnTakesItsOwnNumber() {
        SceneTree tree = Scene.chain(1, 1);
        tree.set(0, 1, 1500, 0, 0);
        Due.world("X(1500):", tree, 0, 65536, 0, 0, 0, 0, -43642, -48741, 0, 0, 48741, -43642, 0);
        tree.set(0, 1, 0, 700, 0);
        Due.world("Y(700):", tree, 0, 31259, 0, 57535, 0, 0, 65536, 0, 0, -57535, 0, 31259, 0);
        tree.set(0, 1, 0, 0, -900);
        Due.world("Z(-900):", tree, 0, 12497, 64339, 0, 0, -64339, 12497, 0, 0, 0, 0, 65536, 0);
    }

    @Sentence("TURN(a, b, c) = (Y(b) * X(a)) * Z(c), all with 0 in their fourth column")
    static void theThreeTurnsInTheirOrder() {
        SceneTree tree = Scene.chain(1, 1);
        tree.set(0, 1, 1024, 1024, 0);
        Due.world("Y * X:", tree, 0, 0, 65536, 0, 0, 0, 0, -65536, 0, -65536, 0, 0, 0);
        tree.set(0, 1, 1024, 0, 1024);
        Due.world("X * Z:", tree, 0, 0, -65536, 0, 0, 0, 0, -65536, 0, 65536, 0, 0, 0);
        tree.set(0, 1, 0, 1024, 1024);
        Due.world("Y * Z:", tree, 0, 0, 0, 65536, 0, 65536, 0, 0, 0, 0, 65536, 0, 0);
    }

    @Sentence("SIN(k), k in 4,096ths of a turn, modulo 4,096")
    static void aTurnGoesRoundOnEachAxis() {
        int[] turns = {-1, -2, -4095, -4096, -4097, 4095, 4096, 4097, 8191, 8192, 1048575, 1048576, -1048575, -1048576};
        for (int turn : turns) {
            int within = Math.floorMod(turn, 4096);
            for (int[] axis : AXES) {
                SceneTree one = Scene.chain(1, 1);
                SceneTree other = Scene.chain(1, 1);
                one.set(0, 1, turn * axis[0], turn * axis[1], turn * axis[2]);
                other.set(0, 1, within * axis[0], within * axis[1], within * axis[2]);
                dueSame("turn " + turn + " and " + within, one, other);
                one.set(0, 1, 0, 0, 0);
                other.set(0, 1, 0, 0, 0);
                one.camera(1, turn * axis[0], turn * axis[1], turn * axis[2]);
                other.camera(1, within * axis[0], within * axis[1], within * axis[2]);
                dueSame("camera's turn " + turn + " and " + within, one, other);
            }
        }
    }

    private static void dueSame(String of, SceneTree one, SceneTree other) {
        for (int cell = 0; cell < 12; cell++) {
            Check.due(of + " at cell " + cell, one.model(0, cell / 4, cell % 4), other.model(0, cell / 4, cell % 4));
        }
    }
}
