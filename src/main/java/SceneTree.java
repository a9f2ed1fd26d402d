import java.util.NoSuchElementException;

/** A tree of nodes, a camera, the matrices by which the nodes are seen, and the order in which they are drawn. */
public final class SceneTree {
    /** Nothing there. */
    public static final int NONE = -1;

    private static final int MOST_NODES = 48;
    private static final int SOLID = 1;
    private static final int CLEAR = 2;

    private static final int MOVE = 0;
    private static final int TURN = 1;
    private static final int SIZE = 2;
    private static final int WIDEST_MOVE = 4194304;
    private static final int WIDEST_TURN = 1048576;
    private static final int WIDEST_SIZE = 1048576;

    private static final int ONE = 65536;
    private static final int ONE_BITS = 16;
    private static final int BOUND = 16777216;

    private static final int ROWS = 3;
    private static final int COLUMNS = 4;
    private static final int CELLS = 12;
    private static final int LAST_COLUMN = 3;

    private static final int FULL_TURN = 4096;
    private static final int HALF_TURN = 2048;
    private static final int QUARTER_TURN = 1024;

    private static final int ABOUT_PARENT = 0;
    private static final int ABOUT_KIND = 1;
    private static final int ABOUT_HIDDEN = 2;
    private static final int ABOUT_NUMBERS = 3;
    private static final int NUMBERS = 9;

    private int nodes = 0;
    private final int[] parents = new int[MOST_NODES];
    private final int[] kinds = new int[MOST_NODES];
    private final boolean[] hidden = new boolean[MOST_NODES];
    /** Of each node its move, turn and size, three numbers each. */
    private final int[][] numbers = new int[MOST_NODES][NUMBERS];
    private final int[][] locals = new int[MOST_NODES][CELLS];
    private final int[][] worlds = new int[MOST_NODES][CELLS];
    /** How many nodes, from 0 on, have a WORLD that still holds: a change reaches later nodes only, as parents come first. */
    private int worldsReady = 0;

    /** The camera's move and turn; its size is never used. */
    private final int[] eye = new int[NUMBERS];
    private final int[] view = new int[CELLS];

    private final boolean[] open = new boolean[MOST_NODES];
    private final int[] depths = new int[MOST_NODES];
    private final int[] order = new int[MOST_NODES];
    private final Turner turner = new Turner();

    public SceneTree() {
        refreshView();
    }

    public int add(int parent, int kind) {
        if (nodes >= MOST_NODES || !isParentBefore(nodes, parent) || kind < 0 || kind > CLEAR) {
            return NONE;
        }
        int node = nodes;
        nodes++;
        parents[node] = parent;
        kinds[node] = kind;
        hidden[node] = false;
        put(numbers[node], MOVE, 0, 0, 0);
        put(numbers[node], TURN, 0, 0, 0);
        put(numbers[node], SIZE, ONE, ONE, ONE);
        refreshLocal(node);
        return node;
    }

    public void clear() {
        nodes = 0;
        worldsReady = 0;
    }

    public boolean set(int node, int what, int x, int y, int z) {
        if (!isNode(node) || what < MOVE || what > SIZE || !canBe(what, x, y, z)) {
            return false;
        }
        put(numbers[node], what, x, y, z);
        refreshLocal(node);
        worldsReady = Math.min(worldsReady, node);
        return true;
    }

    public boolean hang(int node, int parent) {
        if (!isNode(node) || !isParentBefore(node, parent)) {
            return false;
        }
        parents[node] = parent;
        worldsReady = Math.min(worldsReady, node);
        return true;
    }

    public boolean hide(int node, boolean is) {
        if (!isNode(node)) {
            return false;
        }
        hidden[node] = is;
        return true;
    }

    public boolean camera(int what, int x, int y, int z) {
        if (what < MOVE || what > TURN || !canBe(what, x, y, z)) {
            return false;
        }
        put(eye, what, x, y, z);
        refreshView();
        return true;
    }

    public int world(int node, int i, int j) throws NoSuchElementException {
        if (!isNode(node) || !isCell(i, j)) {
            throw new NoSuchElementException();
        }
        readyWorlds(node + 1);
        return worlds[node][COLUMNS * i + j];
    }

    public int model(int node, int i, int j) throws NoSuchElementException {
        if (!isNode(node) || !isCell(i, j)) {
            throw new NoSuchElementException();
        }
        readyWorlds(node + 1);
        return productAt(view, worlds[node], i, j);
    }

    public int seen() {
        markOpen();
        int found = 0;
        for (int node = 0; node < nodes; node++) {
            if (isSeen(node)) {
                found++;
            }
        }
        return found;
    }

    public int inOrder(int k) {
        if (k < 0 || k >= nodes) {
            return NONE;
        }
        int drawn = putInOrder();
        return k < drawn ? order[k] : NONE;
    }

    public int about(int node, int what) throws NoSuchElementException {
        if (!isNode(node) || what < 0 || what >= ABOUT_NUMBERS + NUMBERS) {
            throw new NoSuchElementException();
        }
        switch (what) {
            case ABOUT_PARENT:
                return parents[node];
            case ABOUT_KIND:
                return kinds[node];
            case ABOUT_HIDDEN:
                return hidden[node] ? 1 : 0;
            default:
                return numbers[node][what - ABOUT_NUMBERS];
        }
    }

    public int count() {
        return nodes;
    }

    private boolean isNode(int node) {
        return node >= 0 && node < nodes;
    }

    private static boolean isParentBefore(int node, int parent) {
        return parent >= NONE && parent < node;
    }

    private static boolean isCell(int i, int j) {
        return i >= 0 && i < ROWS && j >= 0 && j < COLUMNS;
    }

    private static boolean canBe(int what, int x, int y, int z) {
        int widest = what == MOVE ? WIDEST_MOVE : what == TURN ? WIDEST_TURN : WIDEST_SIZE;
        return isWithin(x, widest) && isWithin(y, widest) && isWithin(z, widest);
    }

    private static boolean isWithin(int number, int widest) {
        return number >= -widest && number <= widest;
    }

    private static void put(int[] row, int what, int x, int y, int z) {
        row[3 * what] = x;
        row[3 * what + 1] = y;
        row[3 * what + 2] = z;
    }

    private void refreshLocal(int node) {
        int[] own = numbers[node];
        int[] local = locals[node];
        int[] turned = turner.turnOf(own);
        for (int i = 0; i < ROWS; i++) {
            for (int j = 0; j < LAST_COLUMN; j++) {
                int cell = COLUMNS * i + j;
                local[cell] = bound(mul(turned[cell], own[3 * SIZE + j]));
            }
            local[COLUMNS * i + LAST_COLUMN] = own[3 * MOVE + i];
        }
    }

    private void refreshView() {
        int[] turned = turner.turnOf(eye);
        for (int i = 0; i < ROWS; i++) {
            long along = 0;
            for (int j = 0; j < LAST_COLUMN; j++) {
                int cell = COLUMNS * i + j;
                view[cell] = turned[COLUMNS * j + i];
                along += mul(view[cell], eye[3 * MOVE + j]);
            }
            view[COLUMNS * i + LAST_COLUMN] = bound(-along);
        }
    }

    /** Makes WORLD hold for the nodes below upTo, each after its parent. */
    private void readyWorlds(int upTo) {
        for (int node = worldsReady; node < upTo; node++) {
            int parent = parents[node];
            if (parent >= 0) {
                multiply(worlds[parent], locals[node], worlds[node]);
            } else {
                System.arraycopy(locals[node], 0, worlds[node], 0, CELLS);
            }
        }
        worldsReady = Math.max(worldsReady, upTo);
    }

    /** A node is open if neither it nor one above it is hidden; parents come first, so one pass tells. */
    private void markOpen() {
        for (int node = 0; node < nodes; node++) {
            int parent = parents[node];
            open[node] = !hidden[node] && (parent < 0 || open[parent]);
        }
    }

    /** Holds only after markOpen. */
    private boolean isSeen(int node) {
        return kinds[node] != 0 && open[node];
    }

    /** Fills the order anew and answers how many nodes stand in it. */
    private int putInOrder() {
        markOpen();
        readyWorlds(nodes);
        int drawn = 0;
        for (int node = 0; node < nodes; node++) {
            if (isSeen(node)) {
                depths[node] = productAt(view, worlds[node], 2, LAST_COLUMN);
                insert(node, drawn);
                drawn++;
            }
        }
        return drawn;
    }

    /** Nodes come in by their numbers, so one that is equal to another stays behind it. */
    private void insert(int node, int drawn) {
        int place = drawn;
        while (place > 0 && isDrawnBefore(node, order[place - 1])) {
            order[place] = order[place - 1];
            place--;
        }
        order[place] = node;
    }

    private boolean isDrawnBefore(int node, int other) {
        if (kinds[node] != kinds[other]) {
            return kinds[node] == SOLID;
        }
        return kinds[node] == SOLID ? depths[node] < depths[other] : depths[node] > depths[other];
    }

    private static void multiply(int[] a, int[] b, int[] product) {
        for (int i = 0; i < ROWS; i++) {
            for (int j = 0; j < COLUMNS; j++) {
                product[COLUMNS * i + j] = productAt(a, b, i, j);
            }
        }
    }

    private static int productAt(int[] a, int[] b, int i, int j) {
        int row = COLUMNS * i;
        long sum = mul(a[row], b[j]) + mul(a[row + 1], b[COLUMNS + j]) + mul(a[row + 2], b[2 * COLUMNS + j]);
        return bound(j == LAST_COLUMN ? sum + a[row + LAST_COLUMN] : sum);
    }

    /** The shift rounds down for numbers below 0 too, as DIV does. */
    private static long mul(long a, long b) {
        return (a * b) >> ONE_BITS;
    }

    private static int bound(long number) {
        return (int) Math.max(-BOUND, Math.min(BOUND, number));
    }

    /** The divisor stays far above 0, as p is at most 1048576; it is looked at all the same. */
    private static int sine(int k) {
        int angle = Math.floorMod(k, FULL_TURN);
        int inHalf = angle < HALF_TURN ? angle : angle - HALF_TURN;
        long p = (long) inHalf * (HALF_TURN - inHalf);
        long divisor = 20971520L - 4 * p;
        long height = divisor > 0 ? Math.floorDiv(1048576L * p, divisor) : 0;
        return (int) (angle < HALF_TURN ? height : -height);
    }

    /** Works out TURN in matrices that it makes once. */
    private static final class Turner {
        private final int[] x = new int[CELLS];
        private final int[] y = new int[CELLS];
        private final int[] z = new int[CELLS];
        private final int[] yx = new int[CELLS];
        private final int[] whole = new int[CELLS];

        /** TURN of a row of numbers as a node has it; the answer holds until the next call. */
        private int[] turnOf(int[] row) {
            spin(x, 1, 2, row[3 * TURN]);
            spin(y, 2, 0, row[3 * TURN + 1]);
            spin(z, 0, 1, row[3 * TURN + 2]);
            multiply(y, x, yx);
            multiply(yx, z, whole);
            return whole;
        }

        /** A turn by k from axis p towards axis q; the other cells of the matrix are 0 from the start. */
        private static void spin(int[] matrix, int p, int q, int k) {
            int still = 0 + 1 + 2 - p - q;
            int s = sine(k);
            int c = sine(k + QUARTER_TURN);
            matrix[COLUMNS * still + still] = ONE;
            matrix[COLUMNS * p + p] = c;
            matrix[COLUMNS * p + q] = -s;
            matrix[COLUMNS * q + p] = s;
            matrix[COLUMNS * q + q] = c;
        }
    }
}
