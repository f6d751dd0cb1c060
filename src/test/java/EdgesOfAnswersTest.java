import java.util.function.Consumer;
import java.util.function.Supplier;

/** The calls that only tell: a test for each sentence that names a boundary or refuses a call. */
public final class EdgesOfAnswersTest {

    private static final int BARE = VineWall.BARE, ROUND = VineWall.ROUND, MIRROR = VineWall.MIRROR;
    private static final Class<IndexOutOfBoundsException> OUTSIDE = IndexOutOfBoundsException.class;
    private static final int[] NO_ROWS = {-1, 8, Integer.MIN_VALUE, Integer.MAX_VALUE};
    private static final int[] NO_COLUMNS = {-1, 12, Integer.MIN_VALUE, Integer.MAX_VALUE};

    interface CellCall {
        int of(VineWall wall, int row, int column);
    }

    public static void main(String[] args) {
        newObject();
        cells();
        columnsAndCounts();
        generationsAndCuts();
        broken();
        leavesNext();
        repeatsIn();
        bestCut();
        askingChangesNothing();
        Check.end("EdgesOfAnswersTest");
    }

    private static void newObject() {
        Check.edge("Promise 1: A bare wall", EdgesOfAnswersTest::newWallIsBare);
        Check.edge("Promise 1: BARE beyond the sides", EdgesOfAnswersTest::newWallHasBareSides);
        Check.edge("Promise 1: each trellis bears 5 leaves: no sixth one", EdgesOfAnswersTest::newTrellisesBearFive);
        Check.edge("Promise 1: A new object: nothing of another one is in it",
            EdgesOfAnswersTest::newBesideAnother);
        Check.edge("Promise 1: A new object: what is said to it, is said to no other one",
            EdgesOfAnswersTest::anotherBesideNew);
        Check.edge("Promise 1: an object is used for at most 512 calls: the 512th is answered as the first",
            EdgesOfAnswersTest::the512thCall);
    }

    private static void cells() {
        Check.edge("Promise 7: row: 0 to 7; column: 0 to 11: every cell", () -> everyCell(VineWall::look, '.'));
        Check.edge("Promise 8: row: 0 to 7; column: 0 to 11: every cell", () -> everyCell(VineWall::shadeOf, 0));
        Check.edge("Promise 9: row: 0 to 7; column: 0 to 11: every cell", () -> everyCell(VineWall::holdersOf, 0));
        Check.edge("Promise 10: row: 0 to 7; column: 0 to 11: every cell", () -> everyCell(VineWall::neighboursOf, 0));
        Check.edge("Promise 7: Throws IndexOutOfBoundsException if there is no such cell",
            () -> noSuchCell("look", VineWall::look));
        Check.edge("Promise 8: Throws IndexOutOfBoundsException if there is no such cell",
            () -> noSuchCell("shadeOf", VineWall::shadeOf));
        Check.edge("Promise 9: Throws IndexOutOfBoundsException if there is no such cell",
            () -> noSuchCell("holdersOf", VineWall::holdersOf));
        Check.edge("Promise 10: Throws IndexOutOfBoundsException if there is no such cell",
            () -> noSuchCell("neighboursOf", VineWall::neighboursOf));
        Check.edge("Promise 7: Returns BARE_CELL, LEAF or CUT: each of them", EdgesOfAnswersTest::threeLooks);
    }

    private static void columnsAndCounts() {
        Check.edge("Promise 11: column: 0 to 11: the outermost two", EdgesOfAnswersTest::leavesInOutermostColumns);
        Check.edge("Promise 11: Throws IndexOutOfBoundsException if there is no such column",
            EdgesOfAnswersTest::leavesInNoColumn);
        Check.edge("Promise 11: Returns 0 to 8: none, and a whole column", EdgesOfAnswersTest::leavesInNoneToAll);
        Check.edge("Promise 12: The leaves of the wall: none", EdgesOfAnswersTest::noLeaves);
        Check.edge("Promise 12: The leaves of the wall: in all rows and columns, the cut ones not",
            EdgesOfAnswersTest::leavesEverywhere);
        Check.edge("Promise 13: The leaves without shade: none, one in a column, 12",
            EdgesOfAnswersTest::litNoneToAll);
        Check.edge("Promise 13: .. without shade: not those below a leaf, but those below a cut cell",
            EdgesOfAnswersTest::litBelowACut);
    }

    private static void generationsAndCuts() {
        Check.edge("Promise 14: The generations that have gone by: 0 to 60", EdgesOfAnswersTest::generationsGoneBy);
        Check.edge("Promise 15: The cuts that are left: 3 at first, then 0, and 3 again",
            EdgesOfAnswersTest::cutsThatAreLeft);
        Check.edge("Promise 15: .. before the next generation: behind the last one too",
            EdgesOfAnswersTest::cutsLeftBehindTheLast);
    }

    private static void broken() {
        Check.edge("Promise 16: How many leaves have fallen: none before a trellis bore too much",
            EdgesOfAnswersTest::brokenNone);
        Check.edge("Promise 16: .. from trellises: not those that fell by themselves, nor the cut ones",
            EdgesOfAnswersTest::brokenFromTrellisesAlone);
        Check.edge("Promise 16: .. in the whole game: of all generations together",
            EdgesOfAnswersTest::brokenInTheWholeGame);
        Check.edge("Promise 16: .. in the whole game: of the last generation too",
            EdgesOfAnswersTest::brokenInTheLast);
    }

    private static void leavesNext() {
        Check.edge("Promise 17: behind the next generation: without what breaks off in it",
            EdgesOfAnswersTest::leavesNextWithoutWhatBreaks);
        Check.edge("Promise 17: behind the next generation: of a bare wall, and with cut cells",
            EdgesOfAnswersTest::leavesNextOfFew);
        Check.edge("Promise 17: also if 60 have gone by", EdgesOfAnswersTest::leavesNextAtTheEnd);
    }

    private static void repeatsIn() {
        Check.edge("Promise 18: one or more generations before: one", EdgesOfAnswersTest::repeatsAtOnce);
        Check.edge("Promise 18: one or more generations before: more, and the wall now is the first of them",
            EdgesOfAnswersTest::repeatsTheWallOfNow);
        Check.edge("Promise 18: for the first time: also as it will have looked later than now",
            EdgesOfAnswersTest::repeatsALaterWall);
        Check.edge("Promise 18: -1 if it would not within 60: 60 is within", EdgesOfAnswersTest::repeatsInSixty);
        Check.edge("Promise 18: -1 if it would not within 60: 61 is not", EdgesOfAnswersTest::repeatsTooLate);
        Check.edge("Promise 18: if none of them was the last one of the game",
            EdgesOfAnswersTest::repeatsBeyondTheEnd);
        Check.edge("Promise 18: if nobody prunes: what is cut already is", EdgesOfAnswersTest::repeatsBehindACut);
        Check.edge("Promise 18: the wall would look: trellises break on the way",
            EdgesOfAnswersTest::repeatsWithWhatBreaks);
    }

    private static void bestCut() {
        Check.edge("Promise 19: -1 without leaves: a bare wall, and cut cells alone",
            EdgesOfAnswersTest::nothingToCut);
        Check.edge("Promise 19: the one without which there would be the most leaves without shade",
            EdgesOfAnswersTest::mostLitLeaves);
        Check.edge("Promise 19: .. also if that are fewer than with it, or none",
            EdgesOfAnswersTest::bestOfBadCuts);
        Check.edge("Promise 19: The leaf that would best be cut: its cell stays dead for the next generation",
            EdgesOfAnswersTest::bestCutStaysDead);
        Check.edge("Promise 19: of several the one in the lowest row", EdgesOfAnswersTest::lowestRow);
        Check.edge("Promise 19: .. then in the lowest column", EdgesOfAnswersTest::lowestColumn);
        Check.edge("Promise 19: also if no cut is left", EdgesOfAnswersTest::bestWithoutACutLeft);
        Check.edge("Promise 19: also if 60 generations have gone by", EdgesOfAnswersTest::bestAtTheEnd);
        Check.edge("Promise 19: 12 times its row, and its column, together: 0 to 95",
            EdgesOfAnswersTest::firstAndLastCell);
    }

    private static void askingChangesNothing() {
        String why = ": nothing about asking is a state change: ";
        askingChangesNothing("Promise 7" + why, "look()", wall -> wall.look(0, 5));
        askingChangesNothing("Promise 8" + why, "shadeOf()", wall -> wall.shadeOf(0, 5));
        askingChangesNothing("Promise 9" + why, "holdersOf()", wall -> wall.holdersOf(1, 5));
        askingChangesNothing("Promise 10" + why, "neighboursOf()", wall -> wall.neighboursOf(1, 5));
        askingChangesNothing("Promise 11" + why, "leavesIn()", wall -> wall.leavesIn(5));
        askingChangesNothing("Promise 12" + why, "leaves()", VineWall::leaves);
        askingChangesNothing("Promise 13" + why, "lit()", VineWall::lit);
        askingChangesNothing("Promise 14" + why, "generation()", VineWall::generation);
        askingChangesNothing("Promise 15" + why, "cutsLeft()", VineWall::cutsLeft);
        askingChangesNothing("Promise 16" + why, "broken()", VineWall::broken);
        askingChangesNothing("Promise 17" + why, "leavesNext()", VineWall::leavesNext);
        askingChangesNothing("Promise 18" + why, "repeatsIn()", VineWall::repeatsIn);
        askingChangesNothing("Promise 19" + why, "bestCut()", VineWall::bestCut);
    }

    private static void askingChangesNothing(String why, String call, Consumer<VineWall> made) {
        Check.edge(why + call, () -> {
            Twins.changesNothing(call + " of a new wall", EdgesOfAnswersTest::fresh, made);
            Twins.changesNothing(call + " under way", EdgesOfAnswersTest::underWay, made);
            Twins.changesNothing(call + " at the end", EdgesOfAnswersTest::atTheEnd, made);
        });
    }

    private static VineWall fresh() {
        return new VineWall();
    }

    /** A game with cut cells, in which trellises have broken and will break again. */
    private static VineWall underWay() {
        return new Play(ROUND, 2).plant(5, 9).grow(4).trellis(3, 1).cut(0, 9).cut(1, 5).wall();
    }

    private static VineWall atTheEnd() {
        return new Play(MIRROR, 3).plant(5, 8).grow(60).cut(0, 8).wall();
    }

    /** The column 11 bears a leaf in each of the 8 rows. */
    private static VineWall wholeColumn() {
        return new Play(BARE, 8).plant(4).grow(1).plant(11).grow(6).wall();
    }

    private static void newWallIsBare() {
        VineWall wall = new VineWall();
        for (int row = 0; row < 8; row++) {
            Check.due("row " + row, Play.row(wall, row), "............");
        }
        Check.due("leaves()", wall.leaves(), 0);
        Check.due("lit()", wall.lit(), 0);
        Check.due("generation()", wall.generation(), 0);
        Check.due("cutsLeft()", wall.cutsLeft(), 3);
        Check.due("broken()", wall.broken(), 0);
    }

    private static void newWallHasBareSides() {
        VineWall wall = new VineWall();
        wall.plant(0);
        Check.due("neighboursOf(0, 0): not MIRROR", wall.neighboursOf(0, 0), 0);
        Check.due("neighboursOf(0, 11): not ROUND", wall.neighboursOf(0, 11), 0);
    }

    private static void newTrellisesBearFive() {
        for (int column = 0; column < 12; column++) {
            VineWall wall = new VineWall();
            wall.plant(column);
            for (int time = 0; time < 6; time++) {
                wall.grow();
                Check.due("leavesIn(" + column + ") is at most 5", wall.leavesIn(column) <= 5, true);
            }
        }
        VineWall wall = new VineWall();
        for (int column = 0; column < 12; column++) {
            Check.due("trellis(" + column + ", 8)", wall.trellis(column, 8), 5);
        }
        VineWall outermost = new VineWall();
        outermost.plant(0);
        for (int time = 0; time < 5; time++) {
            outermost.grow();
        }
        Check.due("leavesIn(0): five are borne", outermost.leavesIn(0), 5);
        Check.due("broken(): the sixth is not", outermost.broken(), 1);
    }

    /** A game with nothing in it as in a new one, the sides and each trellis among it. */
    private static Play another() {
        return new Play(MIRROR, 2).plant(0, 3, 6, 11).grow(4).cut(0, 3);
    }

    private static String told(VineWall wall) {
        return Play.picture(wall) + wall.leavesNext() + " " + wall.repeatsIn() + " " + wall.bestCut() + " "
            + wall.generation() + " " + wall.cutsLeft() + " " + wall.broken() + " " + wall.neighboursOf(0, 0);
    }

    private static void newBesideAnother() {
        String alone = told(new VineWall());
        Check.due("broken() of the other one", another().wall().broken() > 0, true);
        Check.due("what a new one tells", told(new VineWall()), alone);
        newWallIsBare();
        newWallHasBareSides();
        newTrellisesBearFive();
    }

    private static void anotherBesideNew() {
        VineWall other = another().wall();
        String before = told(other);
        VineWall wall = new VineWall();
        wall.sides(ROUND);
        wall.trellis(3, 8);
        wall.plant(5);
        wall.grow();
        wall.cut(0, 5);
        told(wall);
        Check.due("what the other one tells", told(other), before);
        wall.clear();
        Check.due("what the other one tells behind clear()", told(other), before);
        Check.dueThrow("a fifth one planted in the other one", IllegalStateException.class, () -> other.plant(5));
        for (int column = 0; column < 12; column++) {
            Check.due("trellis(" + column + ", 5) of the other one", other.trellis(column, 5), 2);
        }
    }

    private static void the512thCall() {
        VineWall wall = new VineWall();
        for (int game = 0; game < 8; game++) {
            wall.plant(5);
            for (int time = 0; time < 60; time++) {
                wall.grow();
            }
            wall.clear();
        }
        wall.plant(5);
        for (int time = 0; time < 7; time++) {
            wall.grow();
        }
        Check.due("leaves(), the 505th call", wall.leaves(), 44);
        Check.due("lit()", wall.lit(), 12);
        Check.due("leavesNext()", wall.leavesNext(), 41);
        Check.due("repeatsIn()", wall.repeatsIn(), 3);
        Check.due("broken()", wall.broken(), 0);
        Check.due("bestCut()", wall.bestCut(), 5);
        Check.due("look(7, 11)", wall.look(7, 11), '#');
        Check.due("grow(), the 512th call", wall.grow(), -3);
    }

    private static void everyCell(CellCall call, int ofABareWall) {
        VineWall wall = new VineWall();
        for (int row = 0; row < 8; row++) {
            for (int column = 0; column < 12; column++) {
                Check.due("the cell (" + row + ", " + column + ")", call.of(wall, row, column), ofABareWall);
            }
        }
    }

    private static void noSuchCell(String name, CellCall call) {
        Supplier<VineWall> game = EdgesOfAnswersTest::underWay;
        for (int row : NO_ROWS) {
            Twins.refused(name + "(" + row + ", 0)", OUTSIDE, game, wall -> call.of(wall, row, 0));
            Twins.refused(name + "(" + row + ", 11)", OUTSIDE, game, wall -> call.of(wall, row, 11));
        }
        for (int column : NO_COLUMNS) {
            Twins.refused(name + "(0, " + column + ")", OUTSIDE, game, wall -> call.of(wall, 0, column));
            Twins.refused(name + "(7, " + column + ")", OUTSIDE, game, wall -> call.of(wall, 7, column));
        }
    }

    private static void threeLooks() {
        VineWall wall = new Play(BARE, 5).plant(5, 6).cut(0, 6).wall();
        Check.due("look(0, 5)", wall.look(0, 5), VineWall.LEAF);
        Check.due("look(0, 6)", wall.look(0, 6), VineWall.CUT);
        Check.due("look(0, 7)", wall.look(0, 7), VineWall.BARE_CELL);
        wall.grow();
        Check.due("look(0, 5) behind a generation", wall.look(0, 5), VineWall.LEAF);
        Check.due("look(0, 6) behind a generation", wall.look(0, 6), VineWall.BARE_CELL);
    }

    private static void leavesInOutermostColumns() {
        VineWall wall = new Play(BARE, 5).plant(0, 11).grow(1).cut(0, 11).wall();
        Check.due("leavesIn(0)", wall.leavesIn(0), 2);
        Check.due("leavesIn(11)", wall.leavesIn(11), 1);
    }

    private static void leavesInNoColumn() {
        for (int column : NO_COLUMNS) {
            Twins.refused("leavesIn(" + column + ")", OUTSIDE,
                EdgesOfAnswersTest::underWay, wall -> wall.leavesIn(column));
        }
    }

    private static void leavesInNoneToAll() {
        VineWall empty = new VineWall();
        for (int column = 0; column < 12; column++) {
            Check.due("leavesIn(" + column + ")", empty.leavesIn(column), 0);
        }
        Check.due("leavesIn(11) of a whole column", wholeColumn().leavesIn(11), 8);
    }

    private static void noLeaves() {
        Check.due("leaves() of a new wall", new VineWall().leaves(), 0);
        Check.due("leaves() of cut cells", new Play(BARE, 5).plant(0, 11).cut(0, 0).cut(0, 11).wall().leaves(), 0);
    }

    private static void leavesEverywhere() {
        VineWall wall = wholeColumn();
        Check.due("leaves()", wall.leaves(), 52);
        wall.cut(7, 11);
        wall.cut(0, 11);
        wall.cut(7, 0);
        Check.due("leaves() without three", wall.leaves(), 49);
    }

    private static void litNoneToAll() {
        Check.due("lit() of a new wall", new VineWall().lit(), 0);
        Check.due("lit() of one", new Play(BARE, 5).plant(11).wall().lit(), 1);
        Check.due("lit() of a wall with 52 leaves", wholeColumn().lit(), 12);
    }

    private static void litBelowACut() {
        VineWall wall = new Play(BARE, 5).plant(5).grow(2).wall();
        Check.due("lit() of 8 leaves", wall.lit(), 5);
        wall.cut(2, 4);
        Check.due("lit() with (1, 4) in the place of (2, 4)", wall.lit(), 5);
        wall.cut(1, 4);
        Check.due("lit() without a leaf in the column 4", wall.lit(), 4);
    }

    private static void generationsGoneBy() {
        VineWall wall = new VineWall();
        for (int gone = 0; gone < 60; gone++) {
            Check.due("generation()", wall.generation(), gone);
            wall.grow();
        }
        Check.due("generation()", wall.generation(), 60);
        Check.dueThrow("grow()", IllegalStateException.class, wall::grow);
        Check.due("generation() behind a refused one", wall.generation(), 60);
    }

    private static void cutsThatAreLeft() {
        VineWall wall = new Play(BARE, 5).plant(2, 5, 8).wall();
        Check.due("cutsLeft()", wall.cutsLeft(), 3);
        for (int cut = 0; cut < 3; cut++) {
            wall.cut(0, 2 + 3 * cut);
            Check.due("cutsLeft()", wall.cutsLeft(), 2 - cut);
        }
        wall.grow();
        Check.due("cutsLeft() behind a generation", wall.cutsLeft(), 3);
        Check.due("cutsLeft() at the end", new Play(BARE, 5).grow(60).wall().cutsLeft(), 3);
    }

    private static void cutsLeftBehindTheLast() {
        VineWall wall = new Play(BARE, 5).plant(2, 5, 8).grow(59).cut(0, 2).cut(0, 5).wall();
        Check.due("cutsLeft() at generation 59", wall.cutsLeft(), 1);
        wall.grow();
        Check.due("cutsLeft() at generation 60", wall.cutsLeft(), 3);
        wall.cut(0, 8);
        Check.due("cutsLeft() after a cut at generation 60", wall.cutsLeft(), 2);
    }

    private static void brokenNone() {
        Check.due("broken() of a new wall", new VineWall().broken(), 0);
        Check.due("broken() with as many as are borne", new Play(BARE, 5).plant(0).grow(4).wall().broken(), 0);
        Check.due("broken() with one more", new Play(BARE, 5).plant(0).grow(5).wall().broken(), 1);
    }

    private static void brokenFromTrellisesAlone() {
        VineWall wall = new Play(BARE, 8).plant(5).grow(8).cut(0, 5).cut(1, 5).cut(1, 4).grow(1).wall();
        Check.due("broken()", wall.broken(), 0);
    }

    private static void brokenInTheWholeGame() {
        VineWall wall = new Play(BARE, 1).plant(0).grow(1).wall();
        Check.due("broken(): (1, 0)", wall.broken(), 1);
        wall.grow();
        Check.due("broken(): (1, 0), then (1, 0), (2, 0) and (2, 1)", wall.broken(), 4);
        wall.clear();
        Check.due("broken() of the next game", wall.broken(), 0);
        wall.plant(0);
        wall.grow();
        Check.due("broken() of the next game alone", wall.broken(), 1);
    }

    private static void brokenInTheLast() {
        VineWall wall = new Play(BARE, 5).plant(5).grow(59).wall();
        Check.due("leavesIn(5) at generation 59", wall.leavesIn(5), 4);
        Check.due("broken() at generation 59", wall.broken(), 0);
        wall.trellis(5, 1);
        wall.grow();
        Check.due("leavesIn(5) at generation 60", wall.leavesIn(5), 1);
        Check.due("broken() at generation 60", wall.broken(), 3);
    }

    private static void leavesNextWithoutWhatBreaks() {
        VineWall wall = new Play(BARE, 5).plant(0).grow(4).wall();
        Check.due("leavesNext() with five borne", wall.leavesNext(), 15);
        wall.trellis(0, 8);
        Check.due("leavesNext() with eight borne", wall.leavesNext(), 16);
        wall.trellis(0, 1);
        Check.due("leavesNext() with one borne", wall.leavesNext(), 11);
        Check.due("leaves()", wall.leaves(), 13);
    }

    private static void leavesNextOfFew() {
        Check.due("leavesNext() of a bare wall", new VineWall().leavesNext(), 0);
        VineWall wall = new Play(BARE, 5).plant(5).wall();
        Check.due("leavesNext() of one leaf", wall.leavesNext(), 4);
        wall.cut(0, 5);
        Check.due("leavesNext() of one cut cell", wall.leavesNext(), 0);
    }

    private static void leavesNextAtTheEnd() {
        VineWall wall = new Play(BARE, 5).grow(60).plant(5).wall();
        Check.due("leavesNext()", wall.leavesNext(), 4);
        Check.due("leavesNext() again", wall.leavesNext(), 4);
        Check.due("generation()", wall.generation(), 60);
    }

    private static void repeatsAtOnce() {
        Check.due("repeatsIn() of a bare wall", new VineWall().repeatsIn(), 1);
    }

    private static Play swaying() {
        return new Play(BARE, 5).plant(3, 6).grow(7);
    }

    private static void repeatsTheWallOfNow() {
        VineWall wall = swaying().wall();
        String now = Play.picture(wall);
        Check.due("repeatsIn()", wall.repeatsIn(), 4);
        wall.grow();
        Check.due("the wall looks otherwise behind one generation", Play.picture(wall).equals(now), false);
        wall.grow();
        wall.grow();
        wall.grow();
        Check.due("the wall behind four", Play.picture(wall), now);
    }

    private static void repeatsALaterWall() {
        VineWall wall = new Play(BARE, 5).plant(3, 6).wall();
        Check.due("repeatsIn() of a wall that comes no more", wall.repeatsIn(), 11);
        wall.grow();
        Check.due("repeatsIn(), counted from now on", wall.repeatsIn(), 10);
    }

    private static Play longest() {
        return new Play(BARE, 8).plant(1, 4, 10);
    }

    private static void repeatsInSixty() {
        Check.due("repeatsIn()", longest().grow(1).wall().repeatsIn(), 60);
        Check.due("repeatsIn() a generation later", longest().grow(2).wall().repeatsIn(), 59);
    }

    private static void repeatsTooLate() {
        Check.due("repeatsIn()", longest().wall().repeatsIn(), -1);
    }

    private static void repeatsBeyondTheEnd() {
        Check.due("repeatsIn() at generation 59", new Play(BARE, 5).grow(59).plant(5).wall().repeatsIn(), 10);
        Check.due("repeatsIn() at generation 60", new Play(BARE, 5).grow(60).plant(5).wall().repeatsIn(), 10);
        Check.due("repeatsIn() of a bare wall at generation 60", new Play(BARE, 5).grow(60).wall().repeatsIn(), 1);
    }

    private static void repeatsBehindACut() {
        VineWall wall = new Play(BARE, 5).plant(5).wall();
        Check.due("repeatsIn()", wall.repeatsIn(), 10);
        wall.cut(0, 5);
        Check.due("repeatsIn() with the cut cell, then bare, and bare again", wall.repeatsIn(), 2);
    }

    private static void repeatsWithWhatBreaks() {
        Check.due("repeatsIn() with one leaf in each column, behind six",
            new Play(BARE, 1).plant(5).wall().repeatsIn(), 7);
        Check.due("repeatsIn() with room for more", new Play(BARE, 5).plant(5).wall().repeatsIn(), 10);
    }

    private static void nothingToCut() {
        Check.due("bestCut() of a bare wall", new VineWall().bestCut(), -1);
        Check.due("bestCut() of cut cells", new Play(BARE, 5).plant(0, 11).cut(0, 0).cut(0, 11).wall().bestCut(), -1);
        Check.due("bestCut() of a cleared wall", new Play(BARE, 5).plant(0, 11).clear().wall().bestCut(), -1);
    }

    private static void mostLitLeaves() {
        Check.due("bestCut(): without 11 three columns are lit, without 7 two",
            new Play(BARE, 5).plant(7, 11).wall().bestCut(), 11);
        Check.due("bestCut(): without (1, 5) five columns are lit, without another leaf four",
            new Play(BARE, 5).plant(5).grow(1).wall().bestCut(), 17);
        Check.due("bestCut(): without (6, 5) twelve columns are lit; without (7, 3) more leaves stay, but eleven",
            new Play(ROUND, 5).plant(0).grow(8).wall().bestCut(), 77);
    }

    private static void bestOfBadCuts() {
        Check.due("bestCut() of one leaf, without which nothing is left",
            new Play(BARE, 5).plant(9).wall().bestCut(), 9);
        Check.due("bestCut() in the column 11", new Play(BARE, 5).plant(11).wall().bestCut(), 11);
    }

    private static void bestCutStaysDead() {
        VineWall wall = new Play(BARE, 5).plant(1).grow(2).cut(2, 0).wall();
        Check.due("row 2", Play.row(wall, 2), "x.##........");
        Check.due("row 1", Play.row(wall, 1), "###.........");
        Check.due("bestCut(): without (1, 1) five columns are lit; without (1, 0), which gets no leaf again, four",
            wall.bestCut(), 13);
    }

    private static void lowestRow() {
        Check.due("bestCut(): eight columns are lit without (0, 11), (1, 2) or (1, 11)",
            new Play(BARE, 5).plant(2, 11).grow(1).wall().bestCut(), 11);
    }

    private static void lowestColumn() {
        Check.due("bestCut(): four columns are lit without (1, 10) or (1, 11)",
            new Play(BARE, 5).plant(10).grow(1).wall().bestCut(), 22);
        Check.due("bestCut(): the foot of 2 or that of 7", new Play(BARE, 5).plant(7, 2).wall().bestCut(), 2);
    }

    private static void bestWithoutACutLeft() {
        VineWall wall = new Play(BARE, 5).plant(1, 5, 8, 11).cut(0, 1).cut(0, 5).cut(0, 8).wall();
        Check.due("cutsLeft()", wall.cutsLeft(), 0);
        Check.due("bestCut()", wall.bestCut(), 11);
    }

    private static void bestAtTheEnd() {
        VineWall wall = new Play(BARE, 5).grow(60).plant(7, 11).wall();
        Check.due("bestCut()", wall.bestCut(), 11);
        Check.due("generation()", wall.generation(), 60);
    }

    private static void firstAndLastCell() {
        Check.due("bestCut() of the first cell", new Play(BARE, 5).plant(0).wall().bestCut(), 0);
        VineWall wall = new Play(MIRROR, 8).plant(8).grow(8).cut(3, 10).grow(5).wall();
        Check.due("bestCut() of the last cell", wall.bestCut(), 95);
        Check.due("look(7, 11)", wall.look(7, 11), '#');
    }
}
