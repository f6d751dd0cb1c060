/** A game played up to some moment, in a few words. */
final class Play {

    private final VineWall wall = new VineWall();

    Play(int side, int bearing) {
        wall.sides(side);
        for (int column = 0; column < 12; column++) {
            wall.trellis(column, bearing);
        }
    }

    Play plant(int... columns) {
        for (int column : columns) {
            wall.plant(column);
        }
        return this;
    }

    Play grow(int times) {
        for (int time = 0; time < times; time++) {
            wall.grow();
        }
        return this;
    }

    Play cut(int row, int column) {
        wall.cut(row, column);
        return this;
    }

    Play trellis(int column, int leaves) {
        wall.trellis(column, leaves);
        return this;
    }

    Play clear() {
        wall.clear();
        return this;
    }

    VineWall wall() {
        return wall;
    }

    /** The row as look() tells it, from column 0 to column 11. */
    static String row(VineWall wall, int row) {
        StringBuilder seen = new StringBuilder();
        for (int column = 0; column < 12; column++) {
            seen.append(wall.look(row, column));
        }
        return seen.toString();
    }

    /** All rows, the top first and the foot last. */
    static String picture(VineWall wall) {
        StringBuilder seen = new StringBuilder();
        for (int row = 7; row >= 0; row--) {
            seen.append(row(wall, row)).append('\n');
        }
        return seen.toString();
    }
}
