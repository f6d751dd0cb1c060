/** Each promise of the document, with ordinary inputs, the edges that it names, and wrong inputs. */
public final class PromisesTest {

    private static final Class<IllegalArgumentException> NO_CHOICE = IllegalArgumentException.class;
    private static final Class<IllegalStateException> NOT_NOW = IllegalStateException.class;
    private static final Class<IndexOutOfBoundsException> OUTSIDE = IndexOutOfBoundsException.class;
    private static final int[] BESIDE_THE_RANGE = {-1, Integer.MIN_VALUE, Integer.MAX_VALUE};
    private static final String EMPTY = "............";

    interface CellCall {
        int at(int row, int column);
    }

    public static void main(String[] args) {
        promise1NewObject();
        promise2Sides();
        promise2BeyondTheSides();
        promise3Plant();
        promise4Trellis();
        promise4WhatATrellisBears();
        promise5Cut();
        promise5CutsOfAGeneration();
        promise6Grow();
        promise6WhatSprouts();
        promise6WhatFalls();
        promise6AtTheFoot();
        promise6CutCells();
        promise6Trellises();
        promise7Look();
        promise8ShadeOf();
        promise9HoldersOf();
        promise10NeighboursOf();
        promise11LeavesIn();
        promise12Leaves();
        promise13Lit();
        promise14Generation();
        promise15CutsLeft();
        promise16Broken();
        promise17LeavesNext();
        promise18RepeatsIn();
        promise18CutsAndTheEnd();
        promise19BestCut();
        promise19AfterTheEnd();
        promise20Clear();
        constants();
        Check.end("PromisesTest");
    }

    private static VineWall planted(int side, int bearing, int... columns) {
        VineWall wall = new VineWall();
        wall.sides(side);
        for (int column = 0; column < 12; column++) {
            wall.trellis(column, bearing);
        }
        for (int column : columns) {
            wall.plant(column);
        }
        return wall;
    }

    private static void grow(VineWall wall, int times) {
        for (int time = 0; time < times; time++) {
            wall.grow();
        }
    }

    /** The rows from the top to the foot; the bare rows above the first one told may be left out. */
    private static void duePicture(String what, VineWall wall, String... rows) {
        for (int row = 7; row >= 0; row--) {
            StringBuilder got = new StringBuilder();
            for (int column = 0; column < 12; column++) {
                got.append(wall.look(row, column));
            }
            String want = row < rows.length ? rows[rows.length - 1 - row] : EMPTY;
            Check.due(what + ", row " + row, got.toString(), want);
        }
    }

    private static void dueOutside(String what, CellCall call) {
        int[][] cells = {{8, 0}, {0, 12}, {8, 12}, {7, 12}, {8, 11}, {-1, -1}};
        for (int[] cell : cells) {
            Check.dueThrow(what + "(" + cell[0] + ", " + cell[1] + ")", OUTSIDE, () -> call.at(cell[0], cell[1]));
        }
        for (int wrong : BESIDE_THE_RANGE) {
            Check.dueThrow(what + "(" + wrong + ", 0)", OUTSIDE, () -> call.at(wrong, 0));
            Check.dueThrow(what + "(0, " + wrong + ")", OUTSIDE, () -> call.at(0, wrong));
        }
    }

    private static void dueEverywhere(String what, CellCall call, int want) {
        for (int row = 0; row < 8; row++) {
            for (int column = 0; column < 12; column++) {
                Check.due(what + "(" + row + ", " + column + ")", call.at(row, column), want);
            }
        }
    }

    private static void promise1NewObject() {
        VineWall wall = new VineWall();
        duePicture("a new wall", wall);
        Check.due("generation() of a new wall", wall.generation(), 0);
        Check.due("cutsLeft() of a new wall", wall.cutsLeft(), 3);
        Check.due("broken() of a new wall", wall.broken(), 0);
        wall.plant(0);
        Check.due("BARE is beyond the sides of a new wall", wall.neighboursOf(1, 0), 1);
        Check.due("BARE, not ROUND, at a new wall", wall.neighboursOf(1, 11), 0);
        for (int column = 0; column < 12; column++) {
            Check.due("what a new trellis bears", wall.trellis(column, 5), 5);
        }
        Check.due("another new wall is another wall", new VineWall().leaves(), 0);
    }

    private static void promise2Sides() {
        VineWall wall = new VineWall();
        for (int wrong : new int[] {3, 4, -1, -2, Integer.MAX_VALUE, Integer.MIN_VALUE}) {
            Check.dueThrow("sides(" + wrong + ")", NO_CHOICE, () -> wall.sides(wrong));
        }
        for (int side = 2; side >= 0; side--) {
            int choice = side;
            Check.dueNoThrow("sides(" + side + ")", () -> wall.sides(choice));
        }
        wall.sides(VineWall.ROUND);
        Check.dueThrow("sides(3) after ROUND", NO_CHOICE, () -> wall.sides(3));
        wall.plant(0);
        Check.due("a refused choice leaves ROUND", wall.neighboursOf(0, 11), 1);
        Check.dueNoThrow("sides may be chosen after planting", () -> wall.sides(VineWall.MIRROR));
        Check.due("the last choice holds", wall.neighboursOf(0, 11), 0);
        wall.grow();
        Check.dueThrow("sides(0) after a generation", NOT_NOW, () -> wall.sides(VineWall.BARE));
        Check.dueThrow("sides(2) after a generation", NOT_NOW, () -> wall.sides(VineWall.MIRROR));
        Check.dueThrow("sides(3) after a generation", NO_CHOICE, () -> wall.sides(3));
        Check.due("a late choice changes nothing", wall.neighboursOf(0, 0), 4);
    }

    private static void promise2BeyondTheSides() {
        VineWall bare = planted(VineWall.BARE, 5, 0);
        bare.grow();
        duePicture("BARE", bare, "##..........", "#...........");
        VineWall round = planted(VineWall.ROUND, 5, 0);
        round.grow();
        duePicture("ROUND", round, "##.........#", "#...........");
        VineWall roundAgain = planted(VineWall.ROUND, 5, 11);
        roundAgain.grow();
        duePicture("ROUND, planted at 11", roundAgain, "#.........##", "...........#");
        VineWall mirror = planted(VineWall.MIRROR, 5, 0, 1);
        mirror.grow();
        duePicture("MIRROR: three holders are too many", mirror, ".##.........", "##..........");
        VineWall mirrorRight = planted(VineWall.MIRROR, 5, 10, 11);
        mirrorRight.grow();
        duePicture("MIRROR at the right", mirrorRight, ".........##.", "..........##");
    }

    private static void promise3Plant() {
        VineWall wall = new VineWall();
        for (int wrong : new int[] {12, 13, -1, Integer.MAX_VALUE, Integer.MIN_VALUE}) {
            Check.dueThrow("plant(" + wrong + ")", OUTSIDE, () -> wall.plant(wrong));
        }
        wall.plant(0);
        wall.plant(11);
        duePicture("two planted", wall, "#..........#");
        Check.dueThrow("plant where a leaf is", NOT_NOW, () -> wall.plant(0));
        wall.cut(0, 0);
        Check.dueThrow("plant where a cut cell is", NOT_NOW, () -> wall.plant(0));
        wall.grow();
        Check.dueNoThrow("plant where the cut cell became bare", () -> wall.plant(0));
        Check.dueNoThrow("the fourth one: refused ones do not count", () -> wall.plant(6));
        Check.dueThrow("a fifth one", NOT_NOW, () -> wall.plant(7));
        Check.dueThrow("a fifth one outside", OUTSIDE, () -> wall.plant(12));
        wall.cut(0, 6);
        wall.grow();
        Check.dueThrow("a cut one still counts as planted", NOT_NOW, () -> wall.plant(6));
        VineWall late = new VineWall();
        grow(late, 60);
        Check.dueNoThrow("plant after 60 generations", () -> late.plant(3));
        Check.due("the late one", late.look(0, 3), '#');
    }

    private static void promise4Trellis() {
        VineWall wall = new VineWall();
        for (int wrong : new int[] {12, -1, Integer.MAX_VALUE, Integer.MIN_VALUE}) {
            Check.dueThrow("trellis(" + wrong + ", 5)", OUTSIDE, () -> wall.trellis(wrong, 5));
            Check.dueThrow("trellis(" + wrong + ", 0)", OUTSIDE, () -> wall.trellis(wrong, 0));
        }
        for (int wrong : new int[] {0, 9, -1, Integer.MAX_VALUE, Integer.MIN_VALUE}) {
            Check.dueThrow("trellis(11, " + wrong + ")", NO_CHOICE, () -> wall.trellis(11, wrong));
        }
        Check.due("a refused number changes nothing", wall.trellis(11, 1), 5);
        Check.due("trellis(11, 8)", wall.trellis(11, 8), 1);
        Check.due("trellis(11, 3)", wall.trellis(11, 3), 8);
        Check.due("trellis(0, 4): each column has its own", wall.trellis(0, 4), 5);
        Check.due("trellis(0, 4) again", wall.trellis(0, 4), 4);
        grow(wall, 60);
        Check.due("trellis() after 60 generations", wall.trellis(11, 2), 3);
    }

    private static void promise4WhatATrellisBears() {
        VineWall wall = planted(VineWall.BARE, 5, 5);
        grow(wall, 2);
        wall.trellis(5, 1);
        Check.due("no leaf falls before the generation", wall.leavesIn(5), 2);
        Check.due("broken() before the generation", wall.broken(), 0);
        wall.grow();
        Check.due("leavesIn(5) behind it", wall.leavesIn(5), 1);
        duePicture("the topmost have fallen", wall, "..###.###...", "...##.##....", "....#.#.....", ".....#......");
    }

    private static void promise5Cut() {
        VineWall wall = planted(VineWall.BARE, 5, 5);
        dueOutside("cut", wall::cut);
        grow(wall, 2);
        Check.dueThrow("cut where it is bare", NOT_NOW, () -> wall.cut(2, 5));
        Check.due("the first cut", wall.cut(2, 3), 2);
        Check.due("look() at it", wall.look(2, 3), 'x');
        Check.dueThrow("cut what is cut", NOT_NOW, () -> wall.cut(2, 3));
        Check.due("a refused cut is still left", wall.cutsLeft(), 2);
        Check.due("the second cut", wall.cut(0, 5), 1);
        Check.due("the third cut", wall.cut(1, 5), 0);
        Check.dueThrow("a fourth cut", NOT_NOW, () -> wall.cut(1, 4));
        Check.dueThrow("a fourth cut outside", OUTSIDE, () -> wall.cut(1, 12));
        duePicture("three leaves cut", wall, "...x#.##....", "....#x#.....", ".....x......");
        dueOutside("cut without a cut left", wall::cut);
    }

    private static void promise5CutsOfAGeneration() {
        VineWall wall = planted(VineWall.BARE, 5, 1, 5, 9);
        Check.due("a cut before the first generation", wall.cut(0, 9), 2);
        grow(wall, 60);
        Check.due("a cut after 60 generations", wall.cut(0, 1), 2);
        Check.due("one more", wall.cut(0, 5), 1);
    }

    private static void promise6Grow() {
        VineWall wall = planted(VineWall.BARE, 5, 5);
        Check.due("grow() to 4", wall.grow(), 3);
        duePicture("generation 1", wall, "....###.....", ".....#......");
        Check.due("grow() to 8", wall.grow(), 4);
        duePicture("generation 2", wall, "...##.##....", "....###.....", ".....#......");
        Check.due("grow() to 15", wall.grow(), 7);
        Check.due("grow() to 17", wall.grow(), 2);
        duePicture("generation 4", wall,
            ".##.....##..", "..#######...", "...#...#....", "....###.....", ".....#......");
        grow(wall, 3);
        Check.due("grow() from 44 to 41", wall.grow(), -3);
        VineWall empty = new VineWall();
        for (int time = 0; time < 60; time++) {
            Check.due("grow() of a bare wall", empty.grow(), 0);
        }
        Check.dueThrow("a 61st generation", NOT_NOW, empty::grow);
        Check.dueThrow("a 62nd generation", NOT_NOW, empty::grow);
        Check.due("refused generations do not count", empty.generation(), 60);
    }

    /** The cell's holders, neighbours and shade now, and what it is behind the next generation. */
    private static void dueBecomes(VineWall wall, int row, int column, int[] now, char want) {
        String cell = " of (" + row + ", " + column + ")";
        Check.due("holders" + cell, wall.holdersOf(row, column), now[0]);
        Check.due("neighbours" + cell, wall.neighboursOf(row, column), now[1]);
        Check.due("shade" + cell, wall.shadeOf(row, column), now[2]);
        wall.grow();
        Check.due("look behind" + cell, wall.look(row, column), want);
    }

    private static void cutAndGrow(VineWall wall, int row, int column, int times) {
        wall.cut(row, column);
        grow(wall, times);
    }

    private static void promise6WhatSprouts() {
        dueBecomes(planted(VineWall.BARE, 5, 2), 1, 0, new int[] {0, 0, 0}, '.');
        dueBecomes(planted(VineWall.BARE, 5, 2), 1, 1, new int[] {1, 1, 0}, '#');
        dueBecomes(planted(VineWall.BARE, 5, 2, 3), 1, 2, new int[] {2, 2, 0}, '#');
        dueBecomes(planted(VineWall.BARE, 5, 2, 3, 4), 1, 3, new int[] {3, 3, 0}, '.');
        VineWall threeNear = planted(VineWall.ROUND, 8, 1);
        grow(threeNear, 5);
        dueBecomes(threeNear, 4, 0, new int[] {2, 3, 0}, '#');
        VineWall fourNear = planted(VineWall.MIRROR, 8, 7);
        grow(fourNear, 1);
        cutAndGrow(fourNear, 1, 8, 1);
        dueBecomes(fourNear, 1, 8, new int[] {1, 4, 1}, '.');
        VineWall twoAbove = planted(VineWall.MIRROR, 5, 6);
        grow(twoAbove, 2);
        cutAndGrow(twoAbove, 1, 7, 1);
        dueBecomes(twoAbove, 1, 7, new int[] {1, 3, 2}, '#');
        VineWall threeAbove = planted(VineWall.MIRROR, 8, 1);
        grow(threeAbove, 2);
        cutAndGrow(threeAbove, 1, 2, 4);
        dueBecomes(threeAbove, 1, 2, new int[] {1, 3, 3}, '.');
    }

    private static void promise6WhatFalls() {
        VineWall unheld = planted(VineWall.BARE, 8, 0);
        grow(unheld, 1);
        unheld.cut(0, 0);
        dueBecomes(unheld, 1, 0, new int[] {0, 1, 0}, '.');
        VineWall threeHolders = planted(VineWall.MIRROR, 5, 0);
        grow(threeHolders, 2);
        cutAndGrow(threeHolders, 1, 1, 1);
        dueBecomes(threeHolders, 3, 0, new int[] {3, 5, 0}, '#');
        VineWall fiveNear = planted(VineWall.MIRROR, 8, 2);
        grow(fiveNear, 2);
        dueBecomes(fiveNear, 1, 2, new int[] {1, 5, 0}, '#');
        VineWall sixNear = planted(VineWall.MIRROR, 5, 9);
        grow(sixNear, 3);
        dueBecomes(sixNear, 2, 8, new int[] {2, 6, 1}, '.');
        VineWall fourAbove = planted(VineWall.MIRROR, 8, 2);
        grow(fourAbove, 5);
        dueBecomes(fourAbove, 1, 1, new int[] {1, 4, 4}, '#');
        VineWall fiveAbove = planted(VineWall.BARE, 8, 0);
        grow(fiveAbove, 6);
        dueBecomes(fiveAbove, 1, 0, new int[] {1, 3, 5}, '.');
    }

    private static void promise6AtTheFoot() {
        VineWall wall = planted(VineWall.BARE, 8, 2, 3);
        grow(wall, 60);
        for (int column = 0; column < 12; column++) {
            Check.due("the foot after 60 generations", wall.look(0, column), column == 2 || column == 3 ? '#' : '.');
        }
        VineWall crowded = planted(VineWall.MIRROR, 1, 0, 1);
        crowded.grow();
        duePicture("a trellis that bears one keeps the foot", crowded, "..#.........", "##..........");
        Check.due("the other two fell", crowded.broken(), 1);
    }

    private static void promise6CutCells() {
        VineWall wall = planted(VineWall.MIRROR, 5, 6);
        grow(wall, 1);
        wall.cut(1, 5);
        Check.due("a cut cell is no neighbour", wall.neighboursOf(1, 6), 2);
        dueBecomes(wall, 1, 5, new int[] {1, 2, 0}, '.');
        VineWall again = planted(VineWall.MIRROR, 5, 6);
        grow(again, 2);
        again.cut(1, 7);
        again.grow();
        Check.due("a cut cell is bare behind the generation", again.look(1, 7), '.');
        again.grow();
        Check.due("and bears a leaf behind the one that follows", again.look(1, 7), '#');
        VineWall foot = planted(VineWall.BARE, 5, 6);
        foot.cut(0, 6);
        foot.grow();
        duePicture("a cut cell at the foot becomes bare", foot);
        foot.grow();
        duePicture("and stays bare", foot);
    }

    private static void promise6Trellises() {
        VineWall wall = planted(VineWall.BARE, 5, 5);
        grow(wall, 2);
        wall.trellis(4, 1);
        wall.trellis(6, 2);
        Check.due("grow() counts what fell too: 5 sprout at 2, 3, 5, 7, 8; one falls at 4", wall.grow(), 4);
        duePicture("each column by its own trellis", wall,
            "..##.#.##...", "...#..##....", "....###.....", ".....#......");
        Check.due("a fallen cell is bare", wall.look(2, 4), '.');
        VineWall two = planted(VineWall.BARE, 5, 5);
        grow(two, 2);
        two.trellis(4, 1);
        two.grow();
        Check.due("two at once fall: the one in row 3 and the one in row 2", two.broken(), 2);
        two.trellis(4, 8);
        Check.due("it falls for good", two.look(2, 4), '.');
    }

    private static void promise7Look() {
        VineWall wall = planted(VineWall.BARE, 5, 0, 11);
        dueOutside("look", wall::look);
        Check.due("look() at a leaf", wall.look(0, 11), VineWall.LEAF);
        Check.due("look() at a bare cell", wall.look(7, 11), VineWall.BARE_CELL);
        wall.cut(0, 0);
        Check.due("look() at a cut cell", wall.look(0, 0), VineWall.CUT);
        Check.due("look() above it", wall.look(1, 0), VineWall.BARE_CELL);
        wall.grow();
        Check.due("look() at it behind the generation", wall.look(0, 0), VineWall.BARE_CELL);
        duePicture("the rest", wall, "..........##", "...........#");
    }

    private static void promise8ShadeOf() {
        VineWall wall = planted(VineWall.BARE, 8, 5);
        dueOutside("shadeOf", wall::shadeOf);
        Check.due("a leaf is no shade to itself", wall.shadeOf(0, 5), 0);
        grow(wall, 4);
        Check.due("shadeOf(0, 5)", wall.shadeOf(0, 5), 2);
        Check.due("shadeOf(0, 3): a bare cell", wall.shadeOf(0, 3), 2);
        Check.due("shadeOf(1, 3)", wall.shadeOf(1, 3), 2);
        Check.due("shadeOf(2, 3)", wall.shadeOf(2, 3), 1);
        Check.due("shadeOf(3, 3)", wall.shadeOf(3, 3), 0);
        Check.due("shadeOf(7, 3)", wall.shadeOf(7, 3), 0);
        Check.due("shadeOf(0, 0)", wall.shadeOf(0, 0), 0);
        wall.cut(3, 3);
        Check.due("a cut cell gives no shade", wall.shadeOf(2, 3), 0);
    }

    private static void promise9HoldersOf() {
        VineWall wall = planted(VineWall.BARE, 5, 0, 1, 2, 11);
        dueOutside("holdersOf", wall::holdersOf);
        int[] bare = {2, 3, 2, 1, 0, 0, 0, 0, 0, 0, 1, 1};
        int[] round = {3, 3, 2, 1, 0, 0, 0, 0, 0, 0, 1, 2};
        int[] mirror = {3, 3, 2, 1, 0, 0, 0, 0, 0, 0, 1, 2};
        int[][] all = {bare, round, mirror};
        for (int side = 0; side < 3; side++) {
            wall.sides(side);
            for (int column = 0; column < 12; column++) {
                String call = "holdersOf(1, " + column + ") with sides " + side;
                Check.due(call, wall.holdersOf(1, column), all[side][column]);
                Check.due("holdersOf(0, " + column + ")", wall.holdersOf(0, column), 0);
                Check.due("holdersOf(2, " + column + ")", wall.holdersOf(2, column), 0);
            }
        }
        wall.sides(VineWall.BARE);
        wall.cut(0, 1);
        Check.due("a cut cell holds nothing", wall.holdersOf(1, 1), 2);
    }

    private static void promise10NeighboursOf() {
        VineWall wall = planted(VineWall.BARE, 5, 0, 1, 2, 11);
        dueOutside("neighboursOf", wall::neighboursOf);
        int[][] foot = {
            {1, 2, 1, 1, 0, 0, 0, 0, 0, 0, 1, 0},
            {2, 2, 1, 1, 0, 0, 0, 0, 0, 0, 1, 1},
            {2, 2, 1, 1, 0, 0, 0, 0, 0, 0, 1, 1},
        };
        for (int side = 0; side < 3; side++) {
            wall.sides(side);
            for (int column = 0; column < 12; column++) {
                String call = "neighboursOf(0, " + column + ") with sides " + side;
                Check.due(call, wall.neighboursOf(0, column), foot[side][column]);
                int holders = wall.holdersOf(1, column);
                Check.due("neighboursOf(1, " + column + ")", wall.neighboursOf(1, column), holders);
                Check.due("neighboursOf(7, " + column + ")", wall.neighboursOf(7, column), 0);
            }
        }
        VineWall grown = planted(VineWall.BARE, 5, 5);
        grow(grown, 3);
        Check.due("leaves below, beside and above", grown.neighboursOf(2, 4), 6);
        Check.due("a bare cell", grown.neighboursOf(2, 5), 8);
        Check.due("the one at the foot sees three above", grown.neighboursOf(0, 5), 3);
        grown.cut(3, 5);
        Check.due("a cut cell is no neighbour", grown.neighboursOf(2, 5), 7);
        VineWall mirror = planted(VineWall.MIRROR, 5, 0);
        mirror.grow();
        Check.due("itself, the one below twice, and the one to the right", mirror.neighboursOf(1, 0), 4);
    }

    private static void promise11LeavesIn() {
        VineWall wall = planted(VineWall.BARE, 8, 5);
        for (int wrong : new int[] {12, -1, Integer.MAX_VALUE, Integer.MIN_VALUE}) {
            Check.dueThrow("leavesIn(" + wrong + ")", OUTSIDE, () -> wall.leavesIn(wrong));
        }
        grow(wall, 7);
        int[] want = {3, 3, 3, 5, 5, 4, 5, 5, 3, 3, 3, 2};
        for (int column = 0; column < 12; column++) {
            Check.due("leavesIn(" + column + ")", wall.leavesIn(column), want[column]);
        }
        wall.cut(0, 5);
        Check.due("a cut leaf is not counted", wall.leavesIn(5), 3);
    }

    private static void promise12Leaves() {
        VineWall wall = new VineWall();
        Check.due("leaves() of a bare wall", wall.leaves(), 0);
        wall.plant(0);
        wall.plant(11);
        Check.due("leaves() of two", wall.leaves(), 2);
        wall.cut(0, 11);
        Check.due("leaves() with a cut one", wall.leaves(), 1);
        VineWall grown = planted(VineWall.BARE, 5, 5);
        grow(grown, 7);
        Check.due("leaves() of generation 7", grown.leaves(), 44);
    }

    private static void promise13Lit() {
        VineWall wall = new VineWall();
        Check.due("lit() of a bare wall", wall.lit(), 0);
        wall.plant(5);
        Check.due("lit() of one", wall.lit(), 1);
        int[] want = {3, 5, 7, 9, 11, 12, 12};
        for (int lit : want) {
            wall.grow();
            Check.due("lit() of generation " + wall.generation(), wall.lit(), lit);
        }
        wall.clear();
        wall.plant(0);
        wall.grow();
        wall.cut(1, 0);
        Check.due("what stands below a cut cell is lit", wall.lit(), 2);
        wall.cut(0, 0);
        Check.due("a cut cell is not lit", wall.lit(), 1);
    }

    private static void promise14Generation() {
        VineWall wall = new VineWall();
        for (int gone = 0; gone < 60; gone++) {
            Check.due("generation()", wall.generation(), gone);
            wall.leavesNext();
            wall.repeatsIn();
            wall.bestCut();
            wall.grow();
        }
        Check.due("generation() at the end", wall.generation(), 60);
    }

    private static void promise15CutsLeft() {
        VineWall wall = planted(VineWall.BARE, 5, 2, 5, 8);
        Check.due("cutsLeft() at first", wall.cutsLeft(), 3);
        wall.cut(0, 2);
        Check.due("cutsLeft() after one", wall.cutsLeft(), 2);
        wall.bestCut();
        Check.due("cutsLeft() after asking for the best", wall.cutsLeft(), 2);
        wall.cut(0, 5);
        wall.cut(0, 8);
        Check.due("cutsLeft() after three", wall.cutsLeft(), 0);
        wall.grow();
        Check.due("cutsLeft() behind a generation", wall.cutsLeft(), 3);
    }

    private static void promise16Broken() {
        VineWall wall = planted(VineWall.BARE, 1, 0);
        wall.leavesNext();
        wall.repeatsIn();
        wall.bestCut();
        Check.due("broken() after asking alone", wall.broken(), 0);
        wall.grow();
        Check.due("broken() after one", wall.broken(), 1);
        wall.grow();
        Check.due("broken() adds up: (1, 0), (2, 0) and (2, 1) fall", wall.broken(), 4);
        VineWall enough = planted(VineWall.BARE, 8, 5);
        grow(enough, 8);
        Check.due("what falls by itself does not count", enough.broken(), 0);
        enough.cut(0, 5);
        Check.due("what is cut does not count", enough.broken(), 0);
    }

    private static void promise17LeavesNext() {
        VineWall wall = new VineWall();
        Check.due("leavesNext() of a bare wall", wall.leavesNext(), 0);
        wall.plant(5);
        int[] want = {4, 8, 15, 17, 24, 32, 44, 41};
        for (int leaves : want) {
            Check.due("leavesNext()", wall.leavesNext(), leaves);
            Check.due("leavesNext() again", wall.leavesNext(), leaves);
            wall.grow();
            Check.due("leaves()", wall.leaves(), leaves);
        }
        VineWall broken = planted(VineWall.BARE, 1, 5);
        Check.due("leavesNext() with what breaks off", broken.leavesNext(), 3);
        VineWall pruned = planted(VineWall.BARE, 5, 5);
        pruned.cut(0, 5);
        Check.due("leavesNext() behind a cut", pruned.leavesNext(), 0);
        VineWall ended = new VineWall();
        grow(ended, 60);
        ended.plant(5);
        Check.due("leavesNext() after 60 generations", ended.leavesNext(), 4);
        Check.due("it lets none go by", ended.leaves(), 1);
    }

    private static void promise18RepeatsIn() {
        VineWall wall = new VineWall();
        Check.due("repeatsIn() of a bare wall", wall.repeatsIn(), 1);
        wall.plant(5);
        for (int want = 10; want > 2; want--) {
            Check.due("repeatsIn() at generation " + wall.generation(), wall.repeatsIn(), want);
            wall.grow();
        }
        VineWall longest = planted(VineWall.BARE, 8, 1, 4, 10);
        Check.due("repeatsIn() of one that would repeat in 61", longest.repeatsIn(), -1);
        longest.grow();
        Check.due("repeatsIn() of 60", longest.repeatsIn(), 60);
        longest.grow();
        Check.due("repeatsIn() of 59", longest.repeatsIn(), 59);
        Check.due("repeatsIn() changes nothing", longest.generation(), 2);
        Check.due("repeatsIn() again", longest.repeatsIn(), 59);
    }

    private static void promise18CutsAndTheEnd() {
        VineWall wall = planted(VineWall.BARE, 5, 5);
        wall.cut(0, 5);
        Check.due("a wall with a cut cell comes again only as a bare one", wall.repeatsIn(), 2);
        wall.grow();
        Check.due("a bare one again", wall.repeatsIn(), 1);
        grow(wall, 59);
        wall.plant(5);
        Check.due("repeatsIn() after the last generation", wall.repeatsIn(), 10);
        VineWall held = planted(VineWall.BARE, 1, 5);
        Check.due("one leaf a column: column 11 has its one behind generation 6", held.repeatsIn(), 7);
        VineWall swaying = planted(VineWall.BARE, 5, 3, 6);
        Check.due("generation 11 looks as generation 7", swaying.repeatsIn(), 11);
        grow(swaying, 7);
        for (int gone = 7; gone < 13; gone++) {
            Check.due("repeatsIn() of four that follow one another", swaying.repeatsIn(), 4);
            swaying.grow();
        }
    }

    private static void promise19BestCut() {
        VineWall wall = new VineWall();
        Check.due("bestCut() without leaves", wall.bestCut(), -1);
        wall.plant(11);
        wall.plant(7);
        Check.due("without 11 three columns are lit, without 7 two", wall.bestCut(), 11);
        wall.clear();
        wall.plant(7);
        wall.plant(2);
        Check.due("of two that are as good, the lowest column", wall.bestCut(), 2);
        wall.clear();
        wall.plant(5);
        wall.grow();
        Check.due("not the foot, without which all would fall", wall.bestCut(), 17);
        Check.due("bestCut() cuts nothing", wall.leaves(), 4);
        grow(wall, 3);
        Check.due("bestCut() in generation 4", wall.bestCut(), 16);
        wall.clear();
        wall.plant(0);
        wall.plant(11);
        wall.cut(0, 0);
        Check.due("a cut cell is no leaf to cut", wall.bestCut(), 11);
        wall.cut(0, 11);
        Check.due("bestCut() with cut cells alone", wall.bestCut(), -1);
        duePicture("two cut in one row", wall, "x..........x");
        wall.clear();
        wall.plant(0);
        Check.due("bestCut() of the first cell", wall.bestCut(), 0);
    }

    private static void promise19AfterTheEnd() {
        VineWall wall = planted(VineWall.BARE, 5, 1, 5, 8, 11);
        wall.cut(0, 1);
        wall.cut(0, 5);
        wall.cut(0, 8);
        Check.due("bestCut() without a cut left", wall.bestCut(), 11);
        VineWall ended = new VineWall();
        grow(ended, 60);
        ended.plant(9);
        Check.due("bestCut() after 60 generations", ended.bestCut(), 9);
    }

    private static void promise20Clear() {
        VineWall wall = planted(VineWall.ROUND, 2, 0, 3, 6);
        grow(wall, 4);
        wall.plant(1);
        wall.cut(0, 1);
        wall.trellis(4, 8);
        wall.clear();
        duePicture("a cleared wall", wall);
        Check.due("generation() of a new game", wall.generation(), 0);
        Check.due("broken() of a new game", wall.broken(), 0);
        Check.due("cutsLeft() of a new game", wall.cutsLeft(), 3);
        for (int column = 0; column < 12; column++) {
            Check.due("trellises stay", wall.trellis(column, 5), column == 4 ? 8 : 2);
        }
        wall.plant(0);
        Check.due("the sides stay ROUND", wall.neighboursOf(0, 11), 1);
        Check.dueNoThrow("sides may be chosen again", () -> wall.sides(VineWall.BARE));
        wall.plant(1);
        wall.plant(2);
        Check.dueNoThrow("four may be planted again", () -> wall.plant(3));
        Check.dueThrow("a fifth one in the new game", NOT_NOW, () -> wall.plant(4));
        VineWall ended = new VineWall();
        grow(ended, 60);
        ended.clear();
        Check.due("a new game after the end of one", ended.grow(), 0);
        VineWall fresh = new VineWall();
        fresh.clear();
        dueEverywhere("shadeOf after clear() of a new wall", fresh::shadeOf, 0);
    }

    private static void constants() {
        Check.due("BARE", VineWall.BARE, 0);
        Check.due("ROUND", VineWall.ROUND, 1);
        Check.due("MIRROR", VineWall.MIRROR, 2);
        Check.due("BARE_CELL", VineWall.BARE_CELL, '.');
        Check.due("LEAF", VineWall.LEAF, '#');
        Check.due("CUT", VineWall.CUT, 'x');
    }
}
