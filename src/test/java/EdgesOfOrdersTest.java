import java.util.function.Consumer;
import java.util.function.Supplier;

/** The calls that change a game: a test for each sentence that names a boundary or refuses a call. */
public final class EdgesOfOrdersTest {

    private static final int BARE = VineWall.BARE, ROUND = VineWall.ROUND, MIRROR = VineWall.MIRROR;
    private static final Class<IllegalArgumentException> NO_CHOICE = IllegalArgumentException.class;
    private static final Class<IllegalStateException> NOT_NOW = IllegalStateException.class;
    private static final Class<IndexOutOfBoundsException> OUTSIDE = IndexOutOfBoundsException.class;
    private static final int[] NO_COLUMNS = {-1, 12, Integer.MIN_VALUE, Integer.MAX_VALUE};

    public static void main(String[] args) {
        sides();
        plant();
        trellis();
        cut();
        grow();
        clear();
        Check.end("EdgesOfOrdersTest");
    }

    private static void sides() {
        Check.edge("Promise 2: side: BARE, ROUND or MIRROR: each is a choice", EdgesOfOrdersTest::threeChoices);
        Check.edge("Promise 2: Throws IllegalArgumentException if there is no such choice",
            EdgesOfOrdersTest::noSuchChoice);
        Check.edge("Promise 2: Throws IllegalStateException if a generation has gone by",
            EdgesOfOrdersTest::sidesTooLate);
        Check.edge("Promise 2: .. and not before: chosen again, and after planting and cutting",
            EdgesOfOrdersTest::sidesInTime);
        Check.edge("Promise 2: Before the first generation: of a new game too",
            EdgesOfOrdersTest::sidesOfANewGame);
    }

    private static void plant() {
        Check.edge("Promise 3: column: 0 to 11: each can be planted", EdgesOfOrdersTest::plantInEachColumn);
        Check.edge("Promise 3: Throws IndexOutOfBoundsException if there is no such column",
            EdgesOfOrdersTest::plantOutside);
        Check.edge("Promise 3: Throws IllegalStateException if the cell at the foot is not bare: a leaf",
            EdgesOfOrdersTest::plantOnALeaf);
        Check.edge("Promise 3: Throws IllegalStateException if the cell at the foot is not bare: cut",
            EdgesOfOrdersTest::plantOnACut);
        Check.edge("Promise 3: .. and not where it was cut, when it is bare again",
            EdgesOfOrdersTest::plantWhereItWasCut);
        Check.edge("Promise 3: Throws IllegalStateException if 4 have been planted: and not the fourth",
            EdgesOfOrdersTest::fourCanBePlanted);
        Check.edge("Promise 3: Throws IllegalStateException if 4 have been planted: the fifth",
            EdgesOfOrdersTest::plantAFifth);
        Check.edge("Promise 3: .. in this game: also if they have been cut, and generations ago",
            EdgesOfOrdersTest::plantAFifthLater);
        Check.edge("Promise 3: .. in this game: not those of the game before",
            EdgesOfOrdersTest::plantInANewGame);
        Check.edge("Promise 3: refused ones have not been planted", EdgesOfOrdersTest::refusedOnesAreNotPlanted);
    }

    private static void trellis() {
        Check.edge("Promise 4: column: 0 to 11; leaves: 1 to 8: all of them", EdgesOfOrdersTest::everyTrellis);
        Check.edge("Promise 4: Throws IndexOutOfBoundsException if there is no such column",
            EdgesOfOrdersTest::trellisOutside);
        Check.edge("Promise 4: Throws IllegalArgumentException if leaves is out of range: below 1",
            () -> trellisOutOfRange(0, -1, Integer.MIN_VALUE));
        Check.edge("Promise 4: Throws IllegalArgumentException if leaves is out of range: above 8",
            () -> trellisOutOfRange(9, 10, Integer.MAX_VALUE));
        Check.edge("Promise 4: Returns what it bore before: 5 at first, the same when it is said again",
            EdgesOfOrdersTest::whatItBoreBefore);
        Check.edge("Promise 4: Says what the trellis of a column bears: after the last generation too",
            EdgesOfOrdersTest::trellisAtTheEnd);
    }

    private static void cut() {
        Check.edge("Promise 5: row: 0 to 7; column: 0 to 11: the four corners", EdgesOfOrdersTest::cutInTheCorners);
        Check.edge("Promise 5: Throws IndexOutOfBoundsException if there is no such cell: rows",
            EdgesOfOrdersTest::cutOutsideTheRows);
        Check.edge("Promise 5: Throws IndexOutOfBoundsException if there is no such cell: columns",
            EdgesOfOrdersTest::cutOutsideTheColumns);
        Check.edge("Promise 5: Throws IllegalStateException if there is no leaf: a bare cell",
            EdgesOfOrdersTest::cutABareCell);
        Check.edge("Promise 5: Throws IllegalStateException if there is no leaf: a cut cell",
            EdgesOfOrdersTest::cutACutCell);
        Check.edge("Promise 5: Throws IllegalStateException if no cut is left: and not the third",
            EdgesOfOrdersTest::threeCanBeCut);
        Check.edge("Promise 5: Throws IllegalStateException if no cut is left: the fourth",
            EdgesOfOrdersTest::cutAFourth);
        Check.edge("Promise 5: Between two generations three: three again behind each, and no more than three",
            EdgesOfOrdersTest::threeAgain);
        Check.edge("Promise 5: refused ones use up no cut", EdgesOfOrdersTest::refusedOnesUseUpNoCut);
        Check.edge("Promise 5: a cut before the first generation, and one after the last",
            EdgesOfOrdersTest::firstAndLastCut);
    }

    private static void grow() {
        Check.edge("Promise 6: The game goes on for at most 60 generations: 60 of them",
            EdgesOfOrdersTest::sixtyGenerations);
        Check.edge("Promise 6: Throws IllegalStateException if 60 have gone by", EdgesOfOrdersTest::growTooOften);
        Check.edge("Promise 6: Returns by how much the number of leaves grows: 0",
            EdgesOfOrdersTest::growsByNothing);
        Check.edge("Promise 6: Returns .. below 0 if it gets less", EdgesOfOrdersTest::growsByLess);
        Check.edge("Promise 6: Returns .. counted without what was cut before, and what broke off",
            EdgesOfOrdersTest::growsByWhatStands);
    }

    private static void clear() {
        Check.edge("Promise 20: Takes the vine off the wall: leaves and cut cells", EdgesOfOrdersTest::clearTakesAll);
        Check.edge("Promise 20: begins a new game: no generation, nothing broken, three cuts, four to plant",
            EdgesOfOrdersTest::clearBeginsANewGame);
        Check.edge("Promise 20: begins a new game: when 60 generations have gone by",
            EdgesOfOrdersTest::clearAfterTheEnd);
        Check.edge("Promise 20: begins a new game: of a new wall nothing changes",
            EdgesOfOrdersTest::clearOfANewWall);
        Check.edge("Promise 20: sides stay as they are", EdgesOfOrdersTest::clearKeepsSides);
        Check.edge("Promise 20: trellises stay as they are", EdgesOfOrdersTest::clearKeepsTrellises);
    }

    private static VineWall fresh() {
        return new VineWall();
    }

    /** A game in which nothing is as in a new one. */
    private static VineWall underWay() {
        return new Play(ROUND, 4).plant(2, 9).grow(5).trellis(3, 2).cut(0, 9).cut(1, 2).wall();
    }

    private static VineWall atTheEnd() {
        return new Play(MIRROR, 3).plant(0, 6).grow(60).wall();
    }

    private static void refused(
            String call, Class<? extends RuntimeException> due, Supplier<VineWall> game, Consumer<VineWall> made) {
        Twins.refused(call, due, game, made);
    }

    private static void dueRow(VineWall wall, int row, String want) {
        Check.due("row " + row, Play.row(wall, row), want);
    }

    private static void threeChoices() {
        int[][] neighboursOfTheFoot = {{0, 0}, {0, 1}, {1, 0}};
        for (int side = 0; side < 3; side++) {
            VineWall wall = new VineWall();
            wall.sides(side);
            wall.plant(0);
            Check.due("neighboursOf(0, 0), side " + side, wall.neighboursOf(0, 0), neighboursOfTheFoot[side][0]);
            Check.due("neighboursOf(0, 11), side " + side, wall.neighboursOf(0, 11), neighboursOfTheFoot[side][1]);
        }
    }

    private static void noSuchChoice() {
        for (int side : new int[] {-1, 3, Integer.MIN_VALUE, Integer.MAX_VALUE}) {
            refused("sides(" + side + ")", NO_CHOICE, EdgesOfOrdersTest::fresh, wall -> wall.sides(side));
            refused("sides(" + side + ") after ROUND", NO_CHOICE,
                () -> new Play(ROUND, 5).plant(0, 11).wall(), wall -> wall.sides(side));
        }
    }

    private static void sidesTooLate() {
        for (int side = 0; side < 3; side++) {
            int choice = side;
            refused("sides(" + side + ") after one generation", NOT_NOW,
                () -> new Play(ROUND, 5).plant(0).grow(1).wall(), wall -> wall.sides(choice));
            refused("sides(" + side + ") after five", NOT_NOW,
                EdgesOfOrdersTest::underWay, wall -> wall.sides(choice));
            refused("sides(" + side + ") after 60", NOT_NOW,
                EdgesOfOrdersTest::atTheEnd, wall -> wall.sides(choice));
        }
    }

    private static void sidesInTime() {
        VineWall wall = new Play(ROUND, 5).plant(0, 3, 5, 7).cut(0, 3).cut(0, 5).cut(0, 7).wall();
        wall.leavesNext();
        wall.repeatsIn();
        wall.sides(MIRROR);
        Check.due("neighboursOf(0, 0), MIRROR now", wall.neighboursOf(0, 0), 1);
        wall.sides(MIRROR);
        wall.sides(BARE);
        Check.due("neighboursOf(0, 0), BARE now", wall.neighboursOf(0, 0), 0);
        Check.due("look(0, 5): a choice changes no cell", wall.look(0, 5), 'x');
    }

    private static void sidesOfANewGame() {
        VineWall wall = new Play(ROUND, 5).plant(0).grow(3).clear().wall();
        wall.sides(MIRROR);
        wall.plant(0);
        Check.due("neighboursOf(0, 0)", wall.neighboursOf(0, 0), 1);
    }

    private static void plantInEachColumn() {
        for (int column = 0; column < 12; column++) {
            VineWall wall = new Play(BARE, 5).plant(column).wall();
            Check.due("look(0, " + column + ")", wall.look(0, column), '#');
            Check.due("leaves()", wall.leaves(), 1);
        }
    }

    private static void plantOutside() {
        for (int column : NO_COLUMNS) {
            refused("plant(" + column + ")", OUTSIDE, EdgesOfOrdersTest::fresh, wall -> wall.plant(column));
            refused("plant(" + column + ")", OUTSIDE, EdgesOfOrdersTest::underWay, wall -> wall.plant(column));
        }
    }

    private static void plantOnALeaf() {
        refused("plant(5) twice", NOT_NOW, () -> new Play(BARE, 5).plant(5).wall(), wall -> wall.plant(5));
        refused("plant(0) where it stands since five generations", NOT_NOW,
            () -> new Play(BARE, 5).plant(0).grow(5).wall(), wall -> wall.plant(0));
    }

    private static void plantOnACut() {
        refused("plant(5) on the cell cut before the last generation", NOT_NOW,
            () -> new Play(BARE, 5).plant(5).grow(59).cut(0, 5).wall(), wall -> wall.plant(5));
        refused("plant(5) on the cut cell", NOT_NOW,
            () -> new Play(BARE, 5).plant(5).cut(0, 5).wall(), wall -> wall.plant(5));
        refused("plant(9) on the cut cell", NOT_NOW, EdgesOfOrdersTest::underWay, wall -> wall.plant(9));
    }

    private static void plantWhereItWasCut() {
        VineWall wall = new Play(BARE, 5).plant(5).cut(0, 5).grow(1).plant(5).wall();
        dueRow(wall, 0, ".....#......");
    }

    private static void fourCanBePlanted() {
        dueRow(new Play(BARE, 5).plant(0, 3, 7, 11).wall(), 0, "#..#...#...#");
        dueRow(new Play(BARE, 5).plant(0, 3, 7).grow(60).plant(11).wall(), 0, "#..#...#...#");
    }

    private static void plantAFifth() {
        refused("plant(5) as the fifth", NOT_NOW,
            () -> new Play(BARE, 5).plant(0, 3, 7, 11).wall(), wall -> wall.plant(5));
    }

    private static void plantAFifthLater() {
        refused("plant(0) as the fifth, where the first was cut", NOT_NOW,
            () -> new Play(BARE, 5).plant(0, 3, 7, 11).cut(0, 0).grow(1).wall(), wall -> wall.plant(0));
        refused("plant(5) as the fifth, one in each generation", NOT_NOW,
            () -> new Play(BARE, 5).plant(0).grow(1).plant(3).grow(1).plant(7).grow(1).plant(11).grow(1).wall(),
            wall -> wall.plant(5));
    }

    private static void plantInANewGame() {
        VineWall wall = new Play(BARE, 5).plant(0, 3, 7, 11).clear().plant(1, 2, 3, 4).wall();
        dueRow(wall, 0, ".####.......");
        Check.dueThrow("plant(5) as the fifth of the new game", NOT_NOW, () -> wall.plant(5));
    }

    private static void refusedOnesAreNotPlanted() {
        VineWall wall = new Play(BARE, 5).plant(0).wall();
        for (int time = 0; time < 4; time++) {
            Check.dueThrow("plant(0)", NOT_NOW, () -> wall.plant(0));
            Check.dueThrow("plant(12)", OUTSIDE, () -> wall.plant(12));
        }
        wall.plant(1);
        wall.plant(2);
        wall.plant(3);
        dueRow(wall, 0, "####........");
    }

    private static void everyTrellis() {
        VineWall wall = new VineWall();
        for (int column = 0; column < 12; column++) {
            int before = 5;
            for (int leaves = 1; leaves <= 8; leaves++) {
                Check.due("trellis(" + column + ", " + leaves + ")", wall.trellis(column, leaves), before);
                before = leaves;
            }
        }
    }

    private static void trellisOutside() {
        for (int column : NO_COLUMNS) {
            refused("trellis(" + column + ", 1)", OUTSIDE, EdgesOfOrdersTest::fresh, wall -> wall.trellis(column, 1));
            refused("trellis(" + column + ", 8)", OUTSIDE,
                EdgesOfOrdersTest::underWay, wall -> wall.trellis(column, 8));
        }
    }

    private static void trellisOutOfRange(int... wrong) {
        for (int leaves : wrong) {
            refused("trellis(0, " + leaves + ")", NO_CHOICE,
                EdgesOfOrdersTest::fresh, wall -> wall.trellis(0, leaves));
            refused("trellis(11, " + leaves + ")", NO_CHOICE,
                EdgesOfOrdersTest::underWay, wall -> wall.trellis(11, leaves));
        }
    }

    private static void whatItBoreBefore() {
        VineWall wall = new VineWall();
        Check.due("trellis(7, 8)", wall.trellis(7, 8), 5);
        Check.due("trellis(7, 8) again", wall.trellis(7, 8), 8);
        Check.due("trellis(7, 1)", wall.trellis(7, 1), 8);
        Check.due("trellis(6, 2) beside it", wall.trellis(6, 2), 5);
        wall.plant(7);
        wall.grow();
        Check.due("trellis(7, 3) after more leaves than it bears", wall.trellis(7, 3), 1);
    }

    private static void trellisAtTheEnd() {
        VineWall wall = new Play(BARE, 5).grow(60).plant(5).wall();
        Check.due("leavesNext() with five borne", wall.leavesNext(), 4);
        Check.due("trellis(5, 1)", wall.trellis(5, 1), 5);
        Check.due("leavesNext() with one borne", wall.leavesNext(), 3);
        Check.due("trellis(5, 5)", wall.trellis(5, 5), 1);
    }

    private static void cutInTheCorners() {
        VineWall wall = new Play(BARE, 5).plant(0, 11).wall();
        Check.due("cut(0, 0)", wall.cut(0, 0), 2);
        Check.due("cut(0, 11)", wall.cut(0, 11), 1);
        dueRow(wall, 0, "x..........x");
        VineWall grown = new Play(BARE, 5).plant(3, 8).grow(7).wall();
        Check.due("cut(7, 0)", grown.cut(7, 0), 2);
        Check.due("cut(7, 11)", grown.cut(7, 11), 1);
        Check.due("look(7, 0)", grown.look(7, 0), 'x');
        Check.due("look(7, 11)", grown.look(7, 11), 'x');
    }

    private static void cutOutsideTheRows() {
        for (int row : new int[] {-1, 8, Integer.MIN_VALUE, Integer.MAX_VALUE}) {
            refused("cut(" + row + ", 9)", OUTSIDE, EdgesOfOrdersTest::fresh, wall -> wall.cut(row, 9));
            refused("cut(" + row + ", 2)", OUTSIDE, EdgesOfOrdersTest::underWay, wall -> wall.cut(row, 2));
        }
    }

    private static void cutOutsideTheColumns() {
        for (int column : NO_COLUMNS) {
            refused("cut(0, " + column + ")", OUTSIDE,
                () -> new Play(BARE, 5).plant(0, 11).wall(), wall -> wall.cut(0, column));
            refused("cut(7, " + column + ")", OUTSIDE, EdgesOfOrdersTest::underWay, wall -> wall.cut(7, column));
        }
    }

    private static void cutABareCell() {
        refused("cut(0, 5) of a bare wall", NOT_NOW, EdgesOfOrdersTest::fresh, wall -> wall.cut(0, 5));
        refused("cut(1, 5) above a leaf", NOT_NOW,
            () -> new Play(BARE, 5).plant(5).wall(), wall -> wall.cut(1, 5));
        refused("cut(7, 11) under way", NOT_NOW, EdgesOfOrdersTest::underWay, wall -> wall.cut(7, 11));
    }

    private static void cutACutCell() {
        refused("cut(0, 5) twice", NOT_NOW,
            () -> new Play(BARE, 5).plant(5).cut(0, 5).wall(), wall -> wall.cut(0, 5));
        refused("cut(1, 2) twice", NOT_NOW, EdgesOfOrdersTest::underWay, wall -> wall.cut(1, 2));
    }

    private static void threeCanBeCut() {
        VineWall wall = new Play(BARE, 5).plant(2, 4, 6, 8).wall();
        Check.due("cut(0, 2)", wall.cut(0, 2), 2);
        Check.due("cut(0, 4)", wall.cut(0, 4), 1);
        Check.due("cut(0, 6)", wall.cut(0, 6), 0);
        dueRow(wall, 0, "..x.x.x.#...");
    }

    private static void cutAFourth() {
        refused("cut(0, 8) as the fourth", NOT_NOW,
            () -> new Play(BARE, 5).plant(2, 4, 6, 8).cut(0, 2).cut(0, 4).cut(0, 6).wall(), wall -> wall.cut(0, 8));
    }

    private static void threeAgain() {
        VineWall wall = new Play(BARE, 5).plant(5).grow(9).wall();
        Check.due("cutsLeft() where none was made before", wall.cutsLeft(), 3);
        Check.due("cut(1, 5)", wall.cut(1, 5), 2);
        wall.grow();
        Check.due("cutsLeft() where one was made before", wall.cutsLeft(), 3);
        wall.cut(1, 4);
        wall.cut(1, 6);
        Check.due("the third", wall.cut(0, 5), 0);
        wall.grow();
        Check.due("cutsLeft() where three were made before", wall.cutsLeft(), 3);
    }

    private static void refusedOnesUseUpNoCut() {
        VineWall wall = new Play(BARE, 5).plant(5).wall();
        for (int time = 0; time < 4; time++) {
            Check.dueThrow("cut(0, 4)", NOT_NOW, () -> wall.cut(0, 4));
            Check.dueThrow("cut(8, 5)", OUTSIDE, () -> wall.cut(8, 5));
        }
        Check.due("cutsLeft()", wall.cutsLeft(), 3);
        Check.due("cut(0, 5)", wall.cut(0, 5), 2);
    }

    private static void firstAndLastCut() {
        VineWall wall = new Play(BARE, 5).plant(2, 5).wall();
        Check.due("cut(0, 2) before the first generation", wall.cut(0, 2), 2);
        for (int time = 0; time < 60; time++) {
            wall.grow();
        }
        Check.due("cut(0, 5) after the last generation", wall.cut(0, 5), 2);
        Check.due("look(0, 5)", wall.look(0, 5), 'x');
    }

    private static void sixtyGenerations() {
        VineWall wall = new Play(BARE, 5).plant(5).grow(59).wall();
        Check.due("generation()", wall.generation(), 59);
        int due = wall.leavesNext() - wall.leaves();
        Check.due("grow(), the sixtieth", wall.grow(), due);
        Check.due("generation()", wall.generation(), 60);
    }

    private static void growTooOften() {
        refused("grow() of a bare wall", NOT_NOW, () -> new Play(BARE, 5).grow(60).wall(), VineWall::grow);
        refused("grow() at the end", NOT_NOW, EdgesOfOrdersTest::atTheEnd, VineWall::grow);
        refused("grow() at the end, with three cuts made", NOT_NOW,
            () -> new Play(BARE, 5).plant(1, 3, 5, 7).grow(60).cut(0, 1).cut(0, 3).cut(0, 5).wall(), VineWall::grow);
    }

    private static void growsByNothing() {
        Check.due("grow() of a bare wall", new VineWall().grow(), 0);
        VineWall held = new Play(BARE, 1).plant(5).grow(6).wall();
        Check.due("leaves(), one in each column", held.leaves(), 12);
        Check.due("grow() where as many break off as come", held.grow(), 0);
    }

    private static void growsByLess() {
        VineWall wall = new Play(BARE, 5).plant(5).grow(7).wall();
        Check.due("leaves()", wall.leaves(), 44);
        Check.due("grow()", wall.grow(), -3);
        Check.due("leaves() behind it", wall.leaves(), 41);
    }

    private static void growsByWhatStands() {
        VineWall cut = new Play(BARE, 5).plant(5).grow(1).cut(0, 5).wall();
        Check.due("grow() from 3 to 4: the three of row 1 fall, four come in row 2", cut.grow(), 1);
        VineWall broken = new Play(BARE, 1).plant(5).wall();
        Check.due("grow() by (1, 4) and (1, 6), without (1, 5)", broken.grow(), 2);
    }

    private static void clearTakesAll() {
        VineWall wall = underWay();
        wall.clear();
        Check.due("the wall", Play.picture(wall), Play.picture(new VineWall()));
        Check.due("leaves()", wall.leaves(), 0);
    }

    private static void clearBeginsANewGame() {
        VineWall wall = new Play(BARE, 1).plant(0, 3, 6, 9).grow(4).cut(0, 0).wall();
        wall.clear();
        Check.due("generation()", wall.generation(), 0);
        Check.due("broken()", wall.broken(), 0);
        Check.due("cutsLeft()", wall.cutsLeft(), 3);
        wall.plant(0);
        wall.plant(3);
        wall.plant(6);
        wall.plant(9);
        dueRow(wall, 0, "#..#..#..#..");
        wall.sides(ROUND);
        Check.due("holdersOf(1, 11)", wall.holdersOf(1, 11), 1);
        Check.due("broken() behind a game of one generation",
            new Play(BARE, 1).plant(0).grow(1).clear().wall().broken(), 0);
    }

    private static void clearAfterTheEnd() {
        VineWall wall = atTheEnd();
        wall.clear();
        wall.plant(5);
        for (int time = 0; time < 60; time++) {
            wall.grow();
        }
        Check.due("generation()", wall.generation(), 60);
    }

    private static void clearOfANewWall() {
        Twins.changesNothing("clear()", EdgesOfOrdersTest::fresh, VineWall::clear);
    }

    private static void clearKeepsSides() {
        int[] holders = {0, 1, 0};
        int[] neighbours = {0, 0, 1};
        for (int side = 0; side < 3; side++) {
            VineWall wall = new Play(side, 5).plant(3).grow(4).clear().plant(0).wall();
            Check.due("holdersOf(1, 11), side " + side, wall.holdersOf(1, 11), holders[side]);
            Check.due("neighboursOf(0, 0), side " + side, wall.neighboursOf(0, 0), neighbours[side]);
        }
    }

    private static void clearKeepsTrellises() {
        Play game = new Play(BARE, 5);
        for (int column = 0; column < 12; column++) {
            game.trellis(column, 1 + column % 8);
        }
        VineWall wall = game.plant(3).grow(4).clear().wall();
        for (int column = 0; column < 12; column++) {
            Check.due("trellis(" + column + ", 5)", wall.trellis(column, 5), 1 + column % 8);
        }
    }
}
