import java.util.List;
import java.util.function.Consumer;
import java.util.function.Function;
import java.util.function.Supplier;

/**
 * Holds a game in which a call was made against one in which it was not: every later answer must be the same.
 * What is asked later is split into several ways to go on, so that no object is used for more than 512 calls.
 */
final class Twins {

    private static final List<Function<VineWall, String>> WAYS_TO_GO_ON =
        List.of(Twins::cells, Twins::whole, Twins::orders, Twins::generations, Twins::newGame);

    private Twins() {
    }

    static void refused(
            String call, Class<? extends RuntimeException> due, Supplier<VineWall> game, Consumer<VineWall> made) {
        VineWall wall = game.get();
        Check.dueThrow(call, due, () -> made.accept(wall));
        Check.dueThrow(call + " once more", due, () -> made.accept(wall));
        changesNothing(call, game, made);
    }

    static void changesNothing(String call, Supplier<VineWall> game, Consumer<VineWall> made) {
        int way = 0;
        for (Function<VineWall, String> goOn : WAYS_TO_GO_ON) {
            way++;
            VineWall one = game.get();
            outcome(() -> made.accept(one));
            Check.due("what follows " + call + ", way " + way, goOn.apply(one), goOn.apply(game.get()));
        }
    }

    private static String outcome(Runnable call) {
        try {
            call.run();
            return "done ";
        } catch (RuntimeException e) {
            return e.getClass().getSimpleName() + " ";
        }
    }

    private static String answer(Supplier<Integer> call) {
        try {
            return call.get() + " ";
        } catch (RuntimeException e) {
            return e.getClass().getSimpleName() + " ";
        }
    }

    private static String cells(VineWall wall) {
        StringBuilder told = new StringBuilder();
        for (int row = 0; row < 8; row++) {
            for (int column = 0; column < 12; column++) {
                told.append(wall.look(row, column)).append(wall.shadeOf(row, column));
                told.append(wall.holdersOf(row, column)).append(wall.neighboursOf(row, column)).append(' ');
            }
        }
        return told.toString();
    }

    private static String whole(VineWall wall) {
        StringBuilder told = new StringBuilder(Play.picture(wall));
        for (int column = 0; column < 12; column++) {
            told.append(wall.leavesIn(column)).append(' ');
        }
        told.append(counts(wall));
        told.append(wall.leavesNext()).append(' ').append(wall.repeatsIn()).append(' ').append(wall.bestCut());
        return told.toString();
    }

    private static String counts(VineWall wall) {
        return wall.leaves() + " " + wall.lit() + " " + wall.generation() + " " + wall.cutsLeft() + " "
            + wall.broken() + " ";
    }

    private static String orders(VineWall wall) {
        StringBuilder told = new StringBuilder();
        for (int column = 0; column < 12; column++) {
            int at = column;
            told.append(outcome(() -> wall.plant(at)));
            told.append(answer(() -> wall.trellis(at, 1)));
        }
        for (int cell = 95; cell >= 0; cell--) {
            int row = cell / 12;
            int column = cell % 12;
            told.append(answer(() -> wall.cut(row, column)));
        }
        told.append(outcome(() -> wall.sides(VineWall.BARE)));
        told.append(answer(wall::grow));
        return told + whole(wall);
    }

    private static String generations(VineWall wall) {
        StringBuilder told = new StringBuilder();
        for (int time = 0; time < 61; time++) {
            told.append(answer(wall::grow));
            told.append(counts(wall));
        }
        return told.toString();
    }

    private static String newGame(VineWall wall) {
        wall.clear();
        StringBuilder told = new StringBuilder(counts(wall));
        for (int column : new int[] {0, 11, 5, 8}) {
            told.append(outcome(() -> wall.plant(column)));
        }
        for (int time = 0; time < 7; time++) {
            told.append(answer(wall::grow));
        }
        for (int column = 0; column < 12; column++) {
            told.append(wall.trellis(column, 5)).append(' ');
        }
        return told + whole(wall);
    }
}
