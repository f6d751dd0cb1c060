/** What 'Terms' says of the wall and of a generation: a test for each sentence that names a boundary. */
public final class EdgesOfTheWallTest {

    private static final int BARE = VineWall.BARE, ROUND = VineWall.ROUND, MIRROR = VineWall.MIRROR;
    private static final String NOTHING = "............";

    public static void main(String[] args) {
        theWall();
        theSides();
        whatSprouts();
        whatFalls();
        theFoot();
        theTrellises();
        theCuts();
        Check.end("EdgesOfTheWallTest");
    }

    private static void theWall() {
        Check.edge("Promise 7: The wall has 8 rows, 0 at the foot: the row 7 is the top",
            EdgesOfTheWallTest::eightRows);
        Check.edge("Promise 7: and 12 columns: the vine reaches the columns 0 and 11, and ends there",
            EdgesOfTheWallTest::twelveColumns);
        Check.edge("Promise 10: Above the wall nothing grows", EdgesOfTheWallTest::aboveTheWall);
        Check.edge("Promise 9: Below the wall nothing grows", EdgesOfTheWallTest::belowTheWall);
        Check.edge("Promise 8: The shade is the number of leaves above: 0 at the top, and of a leaf alone",
            EdgesOfTheWallTest::leastShade);
        Check.edge("Promise 8: The shade is the number of leaves above: 7 below a whole column",
            EdgesOfTheWallTest::mostShade);
        Check.edge("Promise 8: .. in its column", EdgesOfTheWallTest::shadeOfOneColumn);
        Check.edge("Promise 9: Its holders are the leaves among the three cells below it: 0 to 3",
            EdgesOfTheWallTest::holdersNoneToAll);
        Check.edge("Promise 10: Its neighbours are the leaves among the eight cells around it: 0 to 8",
            EdgesOfTheWallTest::neighboursNoneToAll);
        Check.edge("Promise 10: a leaf is not its own neighbour, and a cut cell is nobody's",
            EdgesOfTheWallTest::neighboursAreOtherLeaves);
    }

    private static void theSides() {
        Check.edge("Promise 2: BARE: nothing grows there", EdgesOfTheWallTest::bareSides);
        Check.edge("Promise 2: ROUND: the columns 11 and 0 are beside one another: 11 holds 0",
            EdgesOfTheWallTest::roundFromTheRight);
        Check.edge("Promise 2: ROUND: the columns 11 and 0 are beside one another: 0 holds 11",
            EdgesOfTheWallTest::roundFromTheLeft);
        Check.edge("Promise 2: ROUND: all three rows go round", EdgesOfTheWallTest::roundInAllRows);
        Check.edge("Promise 2: MIRROR: a leaf counts as often as it is seen, as a holder",
            EdgesOfTheWallTest::mirrorHolders);
        Check.edge("Promise 2: MIRROR: a leaf counts as often as it is seen, as a neighbour",
            EdgesOfTheWallTest::mirrorNeighbours);
        Check.edge("Promise 2: MIRROR: .. also of itself", EdgesOfTheWallTest::mirrorOfItself);
        Check.edge("Promise 2: MIRROR: one sees the outermost column once more, not the one behind it",
            EdgesOfTheWallTest::mirrorOfTheOutermostAlone);
        Check.edge("Promise 2: MIRROR: what is seen twice is one leaf when leaves are counted",
            EdgesOfTheWallTest::mirrorLeavesCountOnce);
    }

    private static void whatSprouts() {
        Check.edge("Promise 6: A bare cell gets a leaf if it has one holder", () ->
            becomes(new Play(BARE, 5).plant(0), 1, 1, "bare, 1 holders, 1 neighbours, shade 0", '#'));
        Check.edge("Promise 6: .. or two holders", () ->
            becomes(new Play(BARE, 5).plant(0, 1), 1, 0, "bare, 2 holders, 2 neighbours, shade 0", '#'));
        Check.edge("Promise 6: .. and not if it has none", EdgesOfTheWallTest::noHolderNoLeaf);
        Check.edge("Promise 6: .. and not if it has three", () ->
            becomes(new Play(BARE, 5).plant(1).grow(1), 2, 1, "bare, 3 holders, 3 neighbours, shade 0", '.'));
        Check.edge("Promise 6: .. at most three neighbours: three", () ->
            becomes(new Play(BARE, 5).plant(2).grow(5), 4, 2, "bare, 2 holders, 3 neighbours, shade 0", '#'));
        Check.edge("Promise 6: .. at most three neighbours: not four", () ->
            becomes(new Play(BARE, 5).plant(1).grow(2).cut(1, 0), 2, 1, "bare, 2 holders, 4 neighbours, shade 0", '.'));
        Check.edge("Promise 6: .. a shade of at most 2: two", () ->
            becomes(new Play(BARE, 5).plant(0).grow(4).cut(2, 0).grow(1), 2, 0,
                "bare, 2 holders, 2 neighbours, shade 2", '#'));
        Check.edge("Promise 6: .. a shade of at most 2: not three", () ->
            becomes(new Play(BARE, 5).plant(1).grow(5).cut(2, 0).grow(1), 2, 0,
                "bare, 2 holders, 2 neighbours, shade 3", '.'));
    }

    private static void whatFalls() {
        Check.edge("Promise 6: A leaf falls if it has no holder", () ->
            becomes(new Play(BARE, 5).plant(0).grow(1).cut(0, 0), 1, 0, "leaf, 0 holders, 1 neighbours, shade 0", '.'));
        Check.edge("Promise 6: .. and stays with one holder", () ->
            becomes(new Play(BARE, 5).plant(0).grow(1), 1, 0, "leaf, 1 holders, 2 neighbours, shade 0", '#'));
        Check.edge("Promise 6: .. and stays with three holders, which no leaf could get", () ->
            becomes(new Play(BARE, 5).plant(0).grow(5).cut(4, 1).grow(2), 7, 3,
                "leaf, 3 holders, 3 neighbours, shade 0", '#'));
        Check.edge("Promise 6: .. more than five neighbours: not with five", () ->
            becomes(new Play(BARE, 5).plant(1).grow(2), 1, 1, "leaf, 1 holders, 5 neighbours, shade 0", '#'));
        Check.edge("Promise 6: .. more than five neighbours: with six", () ->
            becomes(new Play(MIRROR, 5).plant(0).grow(2).cut(1, 0).grow(1), 2, 0,
                "leaf, 1 holders, 6 neighbours, shade 1", '.'));
        Check.edge("Promise 6: .. its shade is above 4: not with four", () ->
            becomes(new Play(BARE, 5).plant(1).grow(5), 1, 0, "leaf, 1 holders, 3 neighbours, shade 4", '#'));
        Check.edge("Promise 6: .. its shade is above 4: with five", () ->
            becomes(new Play(BARE, 8).plant(0).grow(6), 1, 0, "leaf, 1 holders, 3 neighbours, shade 5", '.'));
        Check.edge("Promise 6: all cells at once, by how the wall was before it",
            EdgesOfTheWallTest::allCellsAtOnce);
    }

    private static void theFoot() {
        Check.edge("Promise 6: A leaf at the foot stays: without a holder, in a shade above 4", () ->
            becomes(new Play(BARE, 8).plant(0).grow(6), 0, 0, "leaf, 0 holders, 2 neighbours, shade 6", '#'));
        Check.edge("Promise 6: A leaf at the foot stays: through a whole game", EdgesOfTheWallTest::theFootStays);
        Check.edge("Promise 6: a bare cell there stays bare", () ->
            becomes(new Play(BARE, 5).plant(0, 2), 0, 1, "bare, 0 holders, 2 neighbours, shade 0", '.'));
        Check.edge("Promise 6: a bare cell there stays bare: through a whole game",
            EdgesOfTheWallTest::theBareFootStays);
    }

    private static void theTrellises() {
        Check.edge("Promise 6: A column whose leaves are as many as its trellis bears loses none",
            EdgesOfTheWallTest::asManyAsItBears);
        Check.edge("Promise 6: A column whose leaves are more than its trellis bears by one loses one, the topmost",
            EdgesOfTheWallTest::oneTooMany);
        Check.edge("Promise 6: .. as many of its topmost leaves as are too many: two of them",
            EdgesOfTheWallTest::twoTooMany);
        Check.edge("Promise 6: Then: a leaf that falls by itself in the same generation is too many no more",
            EdgesOfTheWallTest::trellisesComeAfterGrowth);
        Check.edge("Promise 6: it does so for good", EdgesOfTheWallTest::brokenForGood);
        Check.edge("Promise 6: such a cell is bare, not cut: it can get a leaf by the next generation",
            EdgesOfTheWallTest::brokenCellsAreBare);
        Check.edge("Promise 4: a trellis that bears 1 keeps the leaf at the foot alone",
            EdgesOfTheWallTest::leastTrellis);
        Check.edge("Promise 4: a trellis that bears 8 never breaks, not with 8 leaves",
            EdgesOfTheWallTest::mostTrellis);
        Check.edge("Promise 4: the trellis of a column: each bears for itself",
            EdgesOfTheWallTest::eachTrellisForItself);
        Check.edge("Promise 4: what a trellis bears is asked in a generation, not when it is said",
            EdgesOfTheWallTest::trellisesBreakInAGeneration);
    }

    private static void theCuts() {
        Check.edge("Promise 5: A cut cell is bare behind the next generation, where a bare one gets a leaf",
            EdgesOfTheWallTest::deadForOneGeneration);
        Check.edge("Promise 5: .. and can get a leaf by that which follows", EdgesOfTheWallTest::aliveInTheSecond);
        Check.edge("Promise 5: A cut cell at the foot becomes bare, and stays bare", EdgesOfTheWallTest::cutAtTheFoot);
        Check.edge("Promise 5: A cut cell gives no shade, holds nothing, is no leaf of its column",
            EdgesOfTheWallTest::cutCellsAreNoLeaves);
        Check.edge("Promise 5: a cut in the row 7 and the column 11", EdgesOfTheWallTest::cutInTheCorner);
    }

    /** Holds what is told of the cell now, and look() behind the next generation, against what is due. */
    private static void becomes(Play game, int row, int column, String now, char next) {
        VineWall wall = game.wall();
        String told = (wall.look(row, column) == '#' ? "leaf, " : "bare, ")
            + wall.holdersOf(row, column) + " holders, "
            + wall.neighboursOf(row, column) + " neighbours, shade " + wall.shadeOf(row, column);
        Check.due("the cell (" + row + ", " + column + ") now", told, now);
        wall.grow();
        Check.due("look(" + row + ", " + column + ") behind the generation", wall.look(row, column), next);
    }

    /** The column 11 bears a leaf in each of the 8 rows. */
    private static Play wholeColumn() {
        return new Play(BARE, 8).plant(4).grow(1).plant(11).grow(6);
    }

    private static void dueRow(VineWall wall, int row, String want) {
        Check.due("row " + row, Play.row(wall, row), want);
    }

    private static void eightRows() {
        VineWall wall = new Play(BARE, 8).plant(5).grow(6).wall();
        dueRow(wall, 7, NOTHING);
        wall.grow();
        dueRow(wall, 7, "############");
        Check.due("look(0, 5)", wall.look(0, 5), '#');
        wall.grow();
        Check.due("leaves() of a wall that has come to its top", wall.leaves(), 41);
    }

    private static void twelveColumns() {
        VineWall wall = new Play(BARE, 5).plant(0, 11).wall();
        dueRow(wall, 0, "#..........#");
        wall.grow();
        dueRow(wall, 1, "##........##");
    }

    private static void aboveTheWall() {
        VineWall wall = wholeColumn().wall();
        dueRow(wall, 6, "#.##.##..###");
        Check.due("neighboursOf(7, 11): (7, 10), (6, 10) and (6, 11), not the foot", wall.neighboursOf(7, 11), 3);
        Check.due("neighboursOf(7, 4): (7, 3), (7, 5), (6, 3) and (6, 5), not the foot", wall.neighboursOf(7, 4), 4);
        VineWall foot = new Play(BARE, 5).plant(3, 4, 5).wall();
        Check.due("neighboursOf(7, 4) with a foot alone", foot.neighboursOf(7, 4), 0);
    }

    private static void belowTheWall() {
        VineWall wall = wholeColumn().wall();
        dueRow(wall, 7, "############");
        for (int column = 0; column < 12; column++) {
            Check.due("holdersOf(0, " + column + ")", wall.holdersOf(0, column), 0);
        }
        Check.due("neighboursOf(0, 0): nothing around it", wall.neighboursOf(0, 0), 0);
        Check.due("neighboursOf(0, 11): (1, 10) and (1, 11), not the top", wall.neighboursOf(0, 11), 2);
    }

    private static void leastShade() {
        VineWall wall = wholeColumn().wall();
        for (int column = 0; column < 12; column++) {
            Check.due("shadeOf(7, " + column + ")", wall.shadeOf(7, column), 0);
        }
        Check.due("shadeOf(0, 3) of a leaf alone", new Play(BARE, 5).plant(3).wall().shadeOf(0, 3), 0);
    }

    private static void mostShade() {
        VineWall wall = wholeColumn().wall();
        for (int row = 0; row < 8; row++) {
            Check.due("look(" + row + ", 11)", wall.look(row, 11), '#');
            Check.due("shadeOf(" + row + ", 11)", wall.shadeOf(row, 11), 7 - row);
        }
    }

    private static void shadeOfOneColumn() {
        VineWall wall = new Play(ROUND, 5).plant(1).grow(2).wall();
        dueRow(wall, 2, "#.##.......#");
        dueRow(wall, 1, "###.........");
        Check.due("shadeOf(0, 0)", wall.shadeOf(0, 0), 2);
        Check.due("shadeOf(0, 1): above it (1, 1) alone", wall.shadeOf(0, 1), 1);
        Check.due("shadeOf(1, 1): (2, 0) and (2, 2) are beside its column", wall.shadeOf(1, 1), 0);
        Check.due("shadeOf(0, 11)", wall.shadeOf(0, 11), 1);
        Check.due("shadeOf(0, 10)", wall.shadeOf(0, 10), 0);
    }

    private static void holdersNoneToAll() {
        VineWall wall = new Play(BARE, 5).plant(4, 5, 6).wall();
        int[] want = {0, 0, 0, 1, 2, 3, 2, 1, 0, 0, 0, 0};
        for (int column = 0; column < 12; column++) {
            Check.due("holdersOf(1, " + column + ")", wall.holdersOf(1, column), want[column]);
            Check.due("holdersOf(2, " + column + "), two rows above", wall.holdersOf(2, column), 0);
        }
    }

    private static void neighboursNoneToAll() {
        VineWall wall = new Play(BARE, 5).plant(1).grow(3).wall();
        dueRow(wall, 3, "#####.......");
        dueRow(wall, 2, "#.##........");
        dueRow(wall, 1, "###.........");
        dueRow(wall, 0, ".#..........");
        int[] want = {4, 8, 6, 5, 3, 1, 0, 0, 0, 0, 0, 0};
        for (int column = 0; column < 12; column++) {
            Check.due("neighboursOf(2, " + column + ")", wall.neighboursOf(2, column), want[column]);
        }
    }

    private static void neighboursAreOtherLeaves() {
        VineWall wall = new Play(BARE, 5).plant(3, 4).wall();
        Check.due("neighboursOf(0, 3)", wall.neighboursOf(0, 3), 1);
        wall.cut(0, 4);
        Check.due("neighboursOf(0, 3) beside a cut cell", wall.neighboursOf(0, 3), 0);
        Check.due("neighboursOf(0, 4) of the cut cell itself", wall.neighboursOf(0, 4), 1);
    }

    private static void bareSides() {
        VineWall wall = new Play(BARE, 5).plant(0).wall();
        Check.due("holdersOf(1, 0): (0, 0) once", wall.holdersOf(1, 0), 1);
        Check.due("holdersOf(1, 11): not (0, 0)", wall.holdersOf(1, 11), 0);
        Check.due("neighboursOf(0, 0): not itself", wall.neighboursOf(0, 0), 0);
        Check.due("neighboursOf(0, 11): not (0, 0)", wall.neighboursOf(0, 11), 0);
        wall.grow();
        dueRow(wall, 1, "##..........");
        VineWall right = new Play(BARE, 5).plant(11).wall();
        Check.due("holdersOf(1, 11): (0, 11) once", right.holdersOf(1, 11), 1);
        Check.due("holdersOf(1, 0): not (0, 11)", right.holdersOf(1, 0), 0);
        Check.due("neighboursOf(0, 11): not itself", right.neighboursOf(0, 11), 0);
        Check.due("neighboursOf(0, 0): not (0, 11)", right.neighboursOf(0, 0), 0);
        right.grow();
        dueRow(right, 1, "..........##");
    }

    private static void roundFromTheRight() {
        VineWall wall = new Play(ROUND, 5).plant(11).wall();
        Check.due("holdersOf(1, 0)", wall.holdersOf(1, 0), 1);
        Check.due("holdersOf(1, 11): once", wall.holdersOf(1, 11), 1);
        Check.due("holdersOf(1, 1)", wall.holdersOf(1, 1), 0);
        wall.grow();
        dueRow(wall, 1, "#.........##");
    }

    private static void roundFromTheLeft() {
        VineWall wall = new Play(ROUND, 5).plant(0).wall();
        Check.due("holdersOf(1, 11)", wall.holdersOf(1, 11), 1);
        Check.due("holdersOf(1, 0): once", wall.holdersOf(1, 0), 1);
        Check.due("holdersOf(1, 10)", wall.holdersOf(1, 10), 0);
        wall.grow();
        dueRow(wall, 1, "##.........#");
    }

    private static void roundInAllRows() {
        VineWall wall = new Play(ROUND, 5).plant(0).grow(3).wall();
        dueRow(wall, 3, "####.....###");
        dueRow(wall, 2, ".##.......##");
        dueRow(wall, 1, "##.........#");
        Check.due("neighboursOf(2, 0): three of them in the column 11", wall.neighboursOf(2, 0), 8);
        Check.due("neighboursOf(2, 11): (3, 0) and (1, 0) among them", wall.neighboursOf(2, 11), 6);
    }

    private static void mirrorHolders() {
        VineWall wall = new Play(MIRROR, 5).plant(0).wall();
        Check.due("holdersOf(1, 0): (0, 0) twice", wall.holdersOf(1, 0), 2);
        Check.due("holdersOf(1, 1): (0, 0) once", wall.holdersOf(1, 1), 1);
        Check.due("holdersOf(1, 11): not (0, 0)", wall.holdersOf(1, 11), 0);
        wall.plant(1);
        Check.due("holdersOf(1, 0): (0, 0) twice, and (0, 1)", wall.holdersOf(1, 0), 3);
        wall.grow();
        dueRow(wall, 1, ".##.........");
        VineWall right = new Play(MIRROR, 5).plant(10, 11).wall();
        Check.due("holdersOf(1, 11): (0, 11) twice, and (0, 10)", right.holdersOf(1, 11), 3);
        right.grow();
        dueRow(right, 1, ".........##.");
    }

    private static void mirrorNeighbours() {
        VineWall wall = new Play(MIRROR, 5).plant(0).wall();
        Check.due("neighboursOf(1, 0): (0, 0) twice", wall.neighboursOf(1, 0), 2);
        Check.due("neighboursOf(1, 1): (0, 0) once", wall.neighboursOf(1, 1), 1);
        wall.grow();
        dueRow(wall, 1, "##..........");
        Check.due("neighboursOf(2, 0): (1, 0) twice, and (1, 1)", wall.neighboursOf(2, 0), 3);
        VineWall right = new Play(MIRROR, 5).plant(11).grow(1).wall();
        Check.due("neighboursOf(2, 11): (1, 11) twice, and (1, 10)", right.neighboursOf(2, 11), 3);
        Check.due("neighboursOf(2, 0): nothing", right.neighboursOf(2, 0), 0);
    }

    private static void mirrorOfItself() {
        VineWall wall = new Play(MIRROR, 5).plant(0).wall();
        Check.due("neighboursOf(0, 0): itself", wall.neighboursOf(0, 0), 1);
        wall.grow();
        Check.due("neighboursOf(0, 0): itself, (1, 0) twice, (1, 1)", wall.neighboursOf(0, 0), 4);
        Check.due("neighboursOf(0, 1): not itself", wall.neighboursOf(0, 1), 3);
        VineWall right = new Play(MIRROR, 5).plant(11).wall();
        Check.due("neighboursOf(0, 11): itself", right.neighboursOf(0, 11), 1);
        right.grow();
        Check.due("neighboursOf(1, 11): itself, (0, 11) twice, (1, 10)", right.neighboursOf(1, 11), 4);
        Check.due("neighboursOf(1, 10): not itself", right.neighboursOf(1, 10), 2);
    }

    private static void mirrorOfTheOutermostAlone() {
        VineWall wall = new Play(MIRROR, 5).plant(1, 10).wall();
        Check.due("holdersOf(1, 0): (0, 1) once", wall.holdersOf(1, 0), 1);
        Check.due("holdersOf(1, 11): (0, 10) once", wall.holdersOf(1, 11), 1);
        Check.due("neighboursOf(0, 0): (0, 1) once", wall.neighboursOf(0, 0), 1);
        Check.due("neighboursOf(0, 11): (0, 10) once", wall.neighboursOf(0, 11), 1);
    }

    private static void mirrorLeavesCountOnce() {
        VineWall wall = new Play(MIRROR, 5).plant(0).wall();
        Check.due("leaves()", wall.leaves(), 1);
        Check.due("leavesIn(0)", wall.leavesIn(0), 1);
        Check.due("lit()", wall.lit(), 1);
        Check.due("leavesNext(): (0, 0), (1, 0) and (1, 1)", wall.leavesNext(), 3);
    }

    private static void noHolderNoLeaf() {
        becomes(new Play(BARE, 5).plant(0), 1, 2, "bare, 0 holders, 0 neighbours, shade 0", '.');
        becomes(new Play(BARE, 5).plant(0).grow(1).cut(0, 0).cut(1, 0), 1, 0,
            "bare, 0 holders, 1 neighbours, shade 0", '.');
        VineWall empty = new VineWall();
        Check.due("grow() of a bare wall", empty.grow(), 0);
        Check.due("leaves() behind it", empty.leaves(), 0);
    }

    private static void allCellsAtOnce() {
        VineWall wall = new Play(BARE, 5).plant(0).grow(1).cut(0, 0).grow(1).wall();
        dueRow(wall, 2, "###.........");
        dueRow(wall, 1, NOTHING);
        VineWall dark = new Play(BARE, 8).plant(0).grow(5).wall();
        Check.due("shadeOf(1, 0) before", dark.shadeOf(1, 0), 4);
        dark.grow();
        Check.due("the leaf that comes above", dark.look(6, 0), '#');
        Check.due("the leaf that is in a shade of five only now", dark.look(1, 0), '#');
    }

    private static void theFootStays() {
        Play game = new Play(BARE, 8).plant(2, 3);
        for (int tens = 1; tens <= 6; tens++) {
            game.grow(10);
            Check.due("the foot planted", Play.row(game.wall(), 0).substring(2, 4), "##");
        }
    }

    private static void theBareFootStays() {
        Play game = new Play(BARE, 5).plant(0, 2, 4);
        for (int tens = 1; tens <= 6; tens++) {
            game.grow(10);
            dueRow(game.wall(), 0, "#.#.#.......");
        }
        becomes(new Play(BARE, 5).plant(0, 2).grow(1), 0, 1, "bare, 0 holders, 5 neighbours, shade 1", '.');
    }

    private static void asManyAsItBears() {
        VineWall wall = new Play(BARE, 5).plant(0).grow(4).wall();
        Check.due("leavesIn(0)", wall.leavesIn(0), 5);
        Check.due("look(4, 0)", wall.look(4, 0), '#');
        Check.due("broken()", wall.broken(), 0);
    }

    private static void oneTooMany() {
        VineWall wall = new Play(BARE, 5).plant(0).grow(5).wall();
        Check.due("leavesIn(0)", wall.leavesIn(0), 5);
        Check.due("look(5, 0), the topmost", wall.look(5, 0), '.');
        Check.due("look(4, 0), the one below", wall.look(4, 0), '#');
        Check.due("broken()", wall.broken(), 1);
    }

    private static void twoTooMany() {
        VineWall wall = new Play(BARE, 5).plant(5).grow(2).trellis(4, 1).grow(1).wall();
        dueRow(wall, 3, "..##.####...");
        dueRow(wall, 2, "...#..##....");
        Check.due("leavesIn(4)", wall.leavesIn(4), 1);
        Check.due("look(1, 4), the lowest", wall.look(1, 4), '#');
        Check.due("broken()", wall.broken(), 2);
    }

    private static void trellisesComeAfterGrowth() {
        VineWall wall = new Play(BARE, 5).plant(0).grow(4).cut(0, 0).trellis(0, 4).grow(1).wall();
        Check.due("look(1, 0), which fell without a holder", wall.look(1, 0), '.');
        Check.due("look(5, 0), which came above", wall.look(5, 0), '#');
        Check.due("leavesIn(0)", wall.leavesIn(0), 4);
        Check.due("broken()", wall.broken(), 0);
        VineWall sprouting = new Play(BARE, 1).plant(5).grow(1).wall();
        Check.due("look(1, 5), which has only just come", sprouting.look(1, 5), '.');
        Check.due("broken() of what has only just come", sprouting.broken(), 1);
    }

    private static void brokenForGood() {
        VineWall wall = new Play(BARE, 5).plant(5).trellis(5, 1).grow(1).trellis(5, 8).wall();
        Check.due("look(1, 5) with a stronger trellis", wall.look(1, 5), '.');
        Check.due("leaves()", wall.leaves(), 3);
        Check.due("broken()", wall.broken(), 1);
    }

    private static void brokenCellsAreBare() {
        becomes(new Play(BARE, 5).plant(5).trellis(5, 1).grow(1).trellis(5, 8), 1, 5,
            "bare, 1 holders, 3 neighbours, shade 0", '#');
    }

    private static void leastTrellis() {
        VineWall wall = new Play(BARE, 1).plant(5).grow(60).wall();
        Check.due("leavesIn(5)", wall.leavesIn(5), 1);
        Check.due("look(0, 5)", wall.look(0, 5), '#');
    }

    private static void mostTrellis() {
        VineWall wall = wholeColumn().wall();
        Check.due("leavesIn(11)", wall.leavesIn(11), 8);
        Check.due("broken()", wall.broken(), 0);
    }

    private static void eachTrellisForItself() {
        VineWall wall = new Play(BARE, 5).plant(5).grow(2).trellis(4, 1).trellis(6, 2).grow(1).wall();
        dueRow(wall, 3, "..##.#.##...");
        dueRow(wall, 2, "...#..##....");
        dueRow(wall, 1, "....###.....");
        Check.due("broken(): two of the column 4, one of the column 6", wall.broken(), 3);
    }

    private static void trellisesBreakInAGeneration() {
        VineWall wall = new Play(BARE, 5).plant(5).grow(2).trellis(5, 1).wall();
        Check.due("leavesIn(5) before the generation", wall.leavesIn(5), 2);
        Check.due("broken() before the generation", wall.broken(), 0);
        wall.grow();
        Check.due("leavesIn(5) behind the generation", wall.leavesIn(5), 1);
        Check.due("broken() behind the generation: (1, 5) and (3, 5)", wall.broken(), 2);
    }

    private static Play threeCut() {
        return new Play(BARE, 5).plant(5).grow(1).cut(1, 4).cut(1, 5).cut(1, 6);
    }

    private static void deadForOneGeneration() {
        VineWall wall = threeCut().wall();
        dueRow(wall, 1, "....xxx.....");
        Check.due("holdersOf(1, 4)", wall.holdersOf(1, 4), 1);
        Check.due("neighboursOf(1, 4)", wall.neighboursOf(1, 4), 1);
        Check.due("leavesNext()", wall.leavesNext(), 1);
        wall.grow();
        dueRow(wall, 1, NOTHING);
    }

    private static void aliveInTheSecond() {
        VineWall wall = threeCut().grow(1).wall();
        Check.due("leavesNext()", wall.leavesNext(), 4);
        wall.grow();
        dueRow(wall, 1, "....###.....");
    }

    private static void cutAtTheFoot() {
        VineWall wall = new Play(BARE, 5).plant(4, 5, 6).cut(0, 5).wall();
        dueRow(wall, 0, "....#x#.....");
        wall.grow();
        dueRow(wall, 0, "....#.#.....");
        wall.grow();
        dueRow(wall, 0, "....#.#.....");
    }

    private static void cutCellsAreNoLeaves() {
        VineWall wall = new Play(BARE, 5).plant(5).grow(2).wall();
        dueRow(wall, 2, "...##.##....");
        dueRow(wall, 1, "....###.....");
        wall.cut(1, 5);
        Check.due("shadeOf(0, 5)", wall.shadeOf(0, 5), 0);
        Check.due("holdersOf(2, 5)", wall.holdersOf(2, 5), 2);
        Check.due("leavesIn(5)", wall.leavesIn(5), 1);
        Check.due("leaves()", wall.leaves(), 7);
        Check.due("lit(): (0, 5) now in the place of (1, 5)", wall.lit(), 5);
    }

    private static void cutInTheCorner() {
        VineWall wall = new Play(BARE, 5).plant(4).grow(7).wall();
        Check.due("look(7, 11)", wall.look(7, 11), '#');
        Check.due("cut(7, 11)", wall.cut(7, 11), 2);
        Check.due("look(7, 11) behind the cut", wall.look(7, 11), 'x');
        Check.due("look(7, 10) beside it", wall.look(7, 10), '#');
        wall.grow();
        Check.due("look(7, 11) behind the generation", wall.look(7, 11), '.');
    }
}
