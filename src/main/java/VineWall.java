/** A game of one player against a vine: it grows by itself, and between two generations the player prunes. */
public final class VineWall {

    public static final int BARE = 0, ROUND = 1, MIRROR = 2;
    public static final char BARE_CELL = '.', LEAF = '#', CUT = 'x';

    private static final int ROWS = 8, COLUMNS = 12;
    private static final int MOST_GENERATIONS = 60, MOST_PLANTED = 4, MOST_CUTS = 3;
    private static final int LEAST_BEARING = 1, FIRST_BEARING = 5, MOST_BEARING = 8;
    private static final int HALF_OF_ROWS = 4;

    private final Wall wall = new Wall();
    // What might become of the wall is tried on these two, made once so that no call makes anything.
    private final Wall trial = new Wall();
    private final Wall behind = new Wall();
    private final long[] lowerHalves = new long[MOST_GENERATIONS + 1];
    private final long[] upperHalves = new long[MOST_GENERATIONS + 1];

    private final int[] bearings = new int[COLUMNS];
    private int beyond = BARE;
    private int planted = 0;
    private int cutsDone = 0;
    private int generationsGone = 0;
    private int fallen = 0;

    public VineWall() {
        for (int column = 0; column < COLUMNS; column++) {
            bearings[column] = FIRST_BEARING;
        }
    }

    public void sides(int side) throws IllegalArgumentException, IllegalStateException {
        if (side != BARE && side != ROUND && side != MIRROR) {
            throw new IllegalArgumentException("there is no such choice for the sides");
        }
        if (generationsGone > 0) {
            throw new IllegalStateException("a generation has gone by");
        }
        beyond = side;
    }

    public void plant(int column) throws IndexOutOfBoundsException, IllegalStateException {
        requireColumn(column);
        if (!wall.isBareAt(0, column)) {
            throw new IllegalStateException("the cell at the foot is not bare");
        }
        if (planted >= MOST_PLANTED) {
            throw new IllegalStateException("no more can be planted in this game");
        }
        wall.putLeaf(0, column);
        planted++;
    }

    public int trellis(int column, int leaves) throws IndexOutOfBoundsException, IllegalArgumentException {
        requireColumn(column);
        if (leaves < LEAST_BEARING || leaves > MOST_BEARING) {
            throw new IllegalArgumentException("no trellis bears so many leaves");
        }
        int before = bearings[column];
        bearings[column] = leaves;
        return before;
    }

    public int cut(int row, int column) throws IndexOutOfBoundsException, IllegalStateException {
        requireCell(row, column);
        if (!wall.hasLeafAt(row, column)) {
            throw new IllegalStateException("there is no leaf");
        }
        if (cutsLeft() == 0) {
            throw new IllegalStateException("no cut is left");
        }
        wall.cutLeaf(row, column);
        cutsDone++;
        return cutsLeft();
    }

    public int grow() throws IllegalStateException {
        if (generationsGone >= MOST_GENERATIONS) {
            throw new IllegalStateException("the game is over");
        }
        int before = leaves();
        fallen += behind.becomeNextOf(wall, beyond, bearings);
        wall.copyFrom(behind);
        generationsGone++;
        cutsDone = 0;
        return leaves() - before;
    }

    public char look(int row, int column) throws IndexOutOfBoundsException {
        requireCell(row, column);
        if (wall.hasLeafAt(row, column)) {
            return LEAF;
        }
        return wall.isBareAt(row, column) ? BARE_CELL : CUT;
    }

    public int shadeOf(int row, int column) throws IndexOutOfBoundsException {
        requireCell(row, column);
        return wall.shadeAt(row, column);
    }

    public int holdersOf(int row, int column) throws IndexOutOfBoundsException {
        requireCell(row, column);
        return wall.holdersAt(row, column, beyond);
    }

    public int neighboursOf(int row, int column) throws IndexOutOfBoundsException {
        requireCell(row, column);
        return wall.neighboursAt(row, column, beyond);
    }

    public int leavesIn(int column) throws IndexOutOfBoundsException {
        requireColumn(column);
        return wall.countInColumn(column);
    }

    public int leaves() {
        return wall.countLeaves();
    }

    public int lit() {
        return wall.countLit();
    }

    public int generation() {
        return generationsGone;
    }

    public int cutsLeft() {
        return MOST_CUTS - cutsDone;
    }

    public int broken() {
        return fallen;
    }

    public int leavesNext() {
        behind.becomeNextOf(wall, beyond, bearings);
        return behind.countLeaves();
    }

    public int repeatsIn() {
        // No generation leaves a cut cell behind, so a wall with one never looks the same again.
        int firstToCompare = wall.hasCuts() ? 1 : 0;
        trial.copyFrom(wall);
        remember(0);
        for (int ahead = 1; ahead <= MOST_GENERATIONS; ahead++) {
            behind.becomeNextOf(trial, beyond, bearings);
            trial.copyFrom(behind);
            remember(ahead);
            if (looksAsBefore(ahead, firstToCompare)) {
                return ahead;
            }
        }
        return -1;
    }

    public int bestCut() {
        int best = -1;
        int mostLit = -1;
        for (int cell = 0; cell < ROWS * COLUMNS; cell++) {
            int row = cell / COLUMNS;
            int column = cell % COLUMNS;
            if (wall.hasLeafAt(row, column)) {
                int litBehind = litBehindCut(row, column);
                if (litBehind > mostLit) {
                    mostLit = litBehind;
                    best = cell;
                }
            }
        }
        return best;
    }

    public void clear() {
        wall.strip();
        planted = 0;
        cutsDone = 0;
        generationsGone = 0;
        fallen = 0;
    }

    private int litBehindCut(int row, int column) {
        trial.copyFrom(wall);
        trial.cutLeaf(row, column);
        behind.becomeNextOf(trial, beyond, bearings);
        return behind.countLit();
    }

    private void remember(int ahead) {
        lowerHalves[ahead] = trial.leavesOfHalf(0);
        upperHalves[ahead] = trial.leavesOfHalf(HALF_OF_ROWS);
    }

    private boolean looksAsBefore(int ahead, int firstToCompare) {
        for (int earlier = firstToCompare; earlier < ahead; earlier++) {
            if (lowerHalves[earlier] == lowerHalves[ahead] && upperHalves[earlier] == upperHalves[ahead]) {
                return true;
            }
        }
        return false;
    }

    private static void requireColumn(int column) throws IndexOutOfBoundsException {
        if (column < 0 || column >= COLUMNS) {
            throw new IndexOutOfBoundsException("there is no such column");
        }
    }

    private static void requireCell(int row, int column) throws IndexOutOfBoundsException {
        if (!isCell(row, column)) {
            throw new IndexOutOfBoundsException("there is no such cell");
        }
    }

    private static boolean isCell(int row, int column) {
        return row >= 0 && row < ROWS && column >= 0 && column < COLUMNS;
    }

    /** The cells of a wall at one moment. Each row is a number whose bit c tells of column c. */
    private static final class Wall {

        private static final int MOST_HOLDERS_TO_SPROUT = 2, MOST_NEIGHBOURS_TO_SPROUT = 3, MOST_SHADE_TO_SPROUT = 2;
        private static final int MOST_NEIGHBOURS_TO_STAY = 5, MOST_SHADE_TO_STAY = 4;
        // A row as it is seen has one cell more on each side: moved to the right by c, its lowest three
        // bits are the cell to the left of column c, the cell of column c, and the one to the right.
        private static final int ALL_THREE = 7, BOTH_OUTER = 5;

        private final int[] leafRows = new int[ROWS];
        private final int[] cutRows = new int[ROWS];

        boolean hasLeafAt(int row, int column) {
            return ((leafRow(row) >> column) & 1) == 1;
        }

        boolean isBareAt(int row, int column) {
            return !hasLeafAt(row, column) && !hasCutAt(row, column);
        }

        boolean hasCuts() {
            int cuts = 0;
            for (int row = 0; row < ROWS; row++) {
                cuts |= cutRows[row];
            }
            return cuts != 0;
        }

        void putLeaf(int row, int column) {
            if (isCell(row, column)) {
                leafRows[row] |= 1 << column;
            }
        }

        void cutLeaf(int row, int column) {
            takeLeaf(row, column);
            if (isCell(row, column)) {
                cutRows[row] |= 1 << column;
            }
        }

        void strip() {
            for (int row = 0; row < ROWS; row++) {
                leafRows[row] = 0;
                cutRows[row] = 0;
            }
        }

        void copyFrom(Wall other) {
            for (int row = 0; row < ROWS; row++) {
                leafRows[row] = other.leafRows[row];
                cutRows[row] = other.cutRows[row];
            }
        }

        int shadeAt(int row, int column) {
            int shade = 0;
            for (int above = row + 1; above < ROWS; above++) {
                shade += (leafRow(above) >> column) & 1;
            }
            return shade;
        }

        int holdersAt(int row, int column, int side) {
            return countHolders(leafRowAsSeen(row - 1, side) >> column);
        }

        int neighboursAt(int row, int column, int side) {
            return countNeighbours(
                leafRowAsSeen(row - 1, side) >> column,
                leafRowAsSeen(row, side) >> column,
                leafRowAsSeen(row + 1, side) >> column);
        }

        int countInColumn(int column) {
            // The column's leaves are those above the place just below its foot.
            return shadeAt(-1, column);
        }

        int countLeaves() {
            int count = 0;
            for (int row = 0; row < ROWS; row++) {
                count += Integer.bitCount(leafRows[row]);
            }
            return count;
        }

        int countLit() {
            // Only the topmost leaf of a column is without shade: as many are lit as columns bear a leaf.
            int columnsWithLeaf = 0;
            for (int row = 0; row < ROWS; row++) {
                columnsWithLeaf |= leafRows[row];
            }
            return Integer.bitCount(columnsWithLeaf);
        }

        long leavesOfHalf(int firstRow) {
            long leaves = 0;
            for (int row = firstRow; row < firstRow + HALF_OF_ROWS; row++) {
                leaves = (leaves << COLUMNS) | leafRow(row);
            }
            return leaves;
        }

        /** Makes of this wall what another one becomes; returns how many leaves broke off. */
        int becomeNextOf(Wall before, int side, int[] bearings) {
            // The one before is left as it is: all its cells change at once.
            for (int row = 0; row < ROWS; row++) {
                leafRows[row] = before.leafRowNext(row, side);
                cutRows[row] = 0;
            }
            int brokenOff = 0;
            for (int column = 0; column < COLUMNS; column++) {
                brokenOff += takeTopmost(column, countInColumn(column) - bearings[column]);
            }
            return brokenOff;
        }

        private int leafRowNext(int row, int side) {
            if (row == 0) {
                return leafRow(0);
            }
            int below = leafRowAsSeen(row - 1, side);
            int beside = leafRowAsSeen(row, side);
            int above = leafRowAsSeen(row + 1, side);
            int next = 0;
            for (int column = 0; column < COLUMNS; column++) {
                int holders = countHolders(below >> column);
                int neighbours = countNeighbours(below >> column, beside >> column, above >> column);
                if (bearsLeafNext(row, column, holders, neighbours)) {
                    next |= 1 << column;
                }
            }
            return next;
        }

        private boolean bearsLeafNext(int row, int column, int holders, int neighbours) {
            if (holders == 0 || hasCutAt(row, column)) {
                return false;
            }
            int shade = shadeAt(row, column);
            if (hasLeafAt(row, column)) {
                return neighbours <= MOST_NEIGHBOURS_TO_STAY && shade <= MOST_SHADE_TO_STAY;
            }
            return holders <= MOST_HOLDERS_TO_SPROUT
                && neighbours <= MOST_NEIGHBOURS_TO_SPROUT
                && shade <= MOST_SHADE_TO_SPROUT;
        }

        private int takeTopmost(int column, int tooMany) {
            int taken = 0;
            for (int row = ROWS - 1; row >= 0 && taken < tooMany; row--) {
                if (hasLeafAt(row, column)) {
                    takeLeaf(row, column);
                    taken++;
                }
            }
            return taken;
        }

        private void takeLeaf(int row, int column) {
            if (isCell(row, column)) {
                leafRows[row] &= ~(1 << column);
            }
        }

        private boolean hasCutAt(int row, int column) {
            return row >= 0 && row < ROWS && ((cutRows[row] >> column) & 1) == 1;
        }

        private int leafRow(int row) {
            return row >= 0 && row < ROWS ? leafRows[row] : 0;
        }

        private static int countHolders(int below) {
            return Integer.bitCount(below & ALL_THREE);
        }

        private static int countNeighbours(int below, int beside, int above) {
            return Integer.bitCount(below & ALL_THREE)
                + Integer.bitCount(beside & BOTH_OUTER)
                + Integer.bitCount(above & ALL_THREE);
        }

        private int leafRowAsSeen(int row, int side) {
            int leafRow = leafRow(row);
            int first = leafRow & 1;
            int last = (leafRow >> (COLUMNS - 1)) & 1;
            int seen = leafRow << 1;
            if (side == ROUND) {
                seen |= last | (first << (COLUMNS + 1));
            } else if (side == MIRROR) {
                seen |= first | (last << (COLUMNS + 1));
            }
            return seen;
        }
    }
}
