import java.util.ArrayList;
import java.util.List;

/**
 * The document once more, in the most literal form: a second answer to hold VineWall's against.
 * It keeps pictures of the wall as text and shares no idea with VineWall's rows of bits.
 */
final class PlainVine {

    private char[][] wall = bareWall();
    private final int[] bears = new int[12];
    private int side = 0;
    private int plantedInGame = 0;
    private int cuts = 3;
    private int gone = 0;
    private int brokenInGame = 0;

    PlainVine() {
        for (int column = 0; column < 12; column++) {
            bears[column] = 5;
        }
    }

    private static char[][] bareWall() {
        char[][] bare = new char[8][12];
        for (char[] row : bare) {
            java.util.Arrays.fill(row, '.');
        }
        return bare;
    }

    void sides(int choice) {
        if (choice < 0 || choice > 2) {
            throw new IllegalArgumentException();
        }
        if (gone != 0) {
            throw new IllegalStateException();
        }
        side = choice;
    }

    void plant(int column) {
        inside(0, column);
        if (wall[0][column] != '.' || plantedInGame == 4) {
            throw new IllegalStateException();
        }
        wall[0][column] = '#';
        plantedInGame++;
    }

    int trellis(int column, int leaves) {
        inside(0, column);
        if (leaves < 1 || leaves > 8) {
            throw new IllegalArgumentException();
        }
        int old = bears[column];
        bears[column] = leaves;
        return old;
    }

    int cut(int row, int column) {
        inside(row, column);
        if (wall[row][column] != '#' || cuts == 0) {
            throw new IllegalStateException();
        }
        wall[row][column] = 'x';
        cuts--;
        return cuts;
    }

    int grow() {
        if (gone == 60) {
            throw new IllegalStateException();
        }
        char[][] grown = grown(wall);
        char[][] pruned = relieved(grown);
        int more = count(pruned) - count(wall);
        brokenInGame += count(grown) - count(pruned);
        wall = pruned;
        cuts = 3;
        gone++;
        return more;
    }

    char look(int row, int column) {
        inside(row, column);
        return wall[row][column];
    }

    int shadeOf(int row, int column) {
        inside(row, column);
        return shade(wall, row, column);
    }

    int holdersOf(int row, int column) {
        inside(row, column);
        return holders(wall, row, column);
    }

    int neighboursOf(int row, int column) {
        inside(row, column);
        return neighbours(wall, row, column);
    }

    int leavesIn(int column) {
        inside(0, column);
        return inColumn(wall, column);
    }

    int leaves() {
        return count(wall);
    }

    int lit() {
        return lit(wall);
    }

    int generation() {
        return gone;
    }

    int cutsLeft() {
        return cuts;
    }

    int broken() {
        return brokenInGame;
    }

    int leavesNext() {
        return count(relieved(grown(wall)));
    }

    int repeatsIn() {
        List<String> looks = new ArrayList<>();
        char[][] at = wall;
        for (int n = 0; n <= 60; n++) {
            String look = java.util.Arrays.deepToString(at);
            if (looks.contains(look)) {
                return n;
            }
            looks.add(look);
            at = relieved(grown(at));
        }
        return -1;
    }

    int bestCut() {
        int best = -1;
        int bestLit = -1;
        for (int row = 7; row >= 0; row--) {
            for (int column = 11; column >= 0; column--) {
                if (wall[row][column] == '#') {
                    char[][] without = copy(wall);
                    without[row][column] = 'x';
                    int lit = lit(relieved(grown(without)));
                    if (lit >= bestLit) {
                        bestLit = lit;
                        best = 12 * row + column;
                    }
                }
            }
        }
        return best;
    }

    void clear() {
        wall = bareWall();
        plantedInGame = 0;
        cuts = 3;
        gone = 0;
        brokenInGame = 0;
    }

    private static void inside(int row, int column) {
        if (row < 0 || row > 7 || column < 0 || column > 11) {
            throw new IndexOutOfBoundsException();
        }
    }

    private int leafAt(char[][] at, int row, int column) {
        if (row < 0 || row > 7) {
            return 0;
        }
        int seen = column;
        if (column < 0 || column > 11) {
            switch (side) {
                case 1:
                    seen = (column + 12) % 12;
                    break;
                case 2:
                    seen = column < 0 ? 0 : 11;
                    break;
                default:
                    return 0;
            }
        }
        return at[row][seen] == '#' ? 1 : 0;
    }

    private int holders(char[][] at, int row, int column) {
        return leafAt(at, row - 1, column - 1) + leafAt(at, row - 1, column) + leafAt(at, row - 1, column + 1);
    }

    private int neighbours(char[][] at, int row, int column) {
        int sum = 0;
        for (int down = -1; down <= 1; down++) {
            for (int right = -1; right <= 1; right++) {
                if (down != 0 || right != 0) {
                    sum += leafAt(at, row + down, column + right);
                }
            }
        }
        return sum;
    }

    private static int shade(char[][] at, int row, int column) {
        int sum = 0;
        for (int above = 7; above > row; above--) {
            sum += at[above][column] == '#' ? 1 : 0;
        }
        return sum;
    }

    private static int inColumn(char[][] at, int column) {
        int sum = 0;
        for (char[] row : at) {
            sum += row[column] == '#' ? 1 : 0;
        }
        return sum;
    }

    private static int count(char[][] at) {
        int sum = 0;
        for (int column = 0; column < 12; column++) {
            sum += inColumn(at, column);
        }
        return sum;
    }

    private static int lit(char[][] at) {
        int sum = 0;
        for (int row = 0; row < 8; row++) {
            for (int column = 0; column < 12; column++) {
                sum += at[row][column] == '#' && shade(at, row, column) == 0 ? 1 : 0;
            }
        }
        return sum;
    }

    private static char[][] copy(char[][] at) {
        char[][] same = new char[8][];
        for (int row = 0; row < 8; row++) {
            same[row] = at[row].clone();
        }
        return same;
    }

    private char[][] grown(char[][] at) {
        char[][] next = bareWall();
        for (int row = 0; row < 8; row++) {
            for (int column = 0; column < 12; column++) {
                next[row][column] = becomes(at, row, column);
            }
        }
        return next;
    }

    private char becomes(char[][] at, int row, int column) {
        char now = at[row][column];
        if (now == 'x') {
            return '.';
        }
        if (row == 0) {
            return now;
        }
        int held = holders(at, row, column);
        int near = neighbours(at, row, column);
        int dark = shade(at, row, column);
        if (now == '.') {
            return (held == 1 || held == 2) && near <= 3 && dark <= 2 ? '#' : '.';
        }
        return held == 0 || near > 5 || dark > 4 ? '.' : '#';
    }

    private char[][] relieved(char[][] at) {
        char[][] next = copy(at);
        for (int column = 0; column < 12; column++) {
            for (int row = 7; inColumn(next, column) > bears[column]; row--) {
                next[row][column] = '.';
            }
        }
        return next;
    }
}
