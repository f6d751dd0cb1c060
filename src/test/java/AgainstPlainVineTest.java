/** Runs of many calls, right and wrong ones, on VineWall and on PlainVine: the answers must be the same. */
public final class AgainstPlainVineTest {

    private static final int RUNS = 3000, CALLS = 512, CELLS = 96;

    private static long seed = 1;

    interface Answer {
        int give();
    }

    interface Order {
        void give();
    }

    private final int run;
    private final int style;
    private final boolean hurried;
    private final VineWall wall = new VineWall();
    private final PlainVine plain = new PlainVine();
    private int calls = 0;

    private AgainstPlainVineTest(int run) {
        this.run = run;
        this.style = run / 3 % 4;
        this.hurried = run / 12 % 2 == 1;
    }

    public static void main(String[] args) {
        for (int run = 0; run < RUNS && !Check.anyWrong(); run++) {
            new AgainstPlainVineTest(run).play();
        }
        Check.end("AgainstPlainVineTest");
    }

    /** A fixed row of numbers, so that each run of the test is the same. */
    private static int pick(int choices) {
        seed = seed * 6364136223846793005L + 1442695040888963407L;
        return (int) ((seed >>> 33) % choices);
    }

    private void play() {
        chooseSidesAndTrellises();
        while (calls < CALLS - CELLS && !Check.anyWrong()) {
            callSomething();
        }
        for (int cell = 0; cell < CELLS; cell++) {
            int row = cell / 12;
            int column = cell % 12;
            same("look", () -> wall.look(row, column), () -> plain.look(row, column));
        }
    }

    private void chooseSidesAndTrellises() {
        int side = run % 3;
        sameOrder("sides", () -> wall.sides(side), () -> plain.sides(side));
        int least = run % 2 == 0 ? 8 : 1 + pick(8);
        for (int column = 0; column < 12; column++) {
            int at = column;
            int leaves = Math.min(8, least + pick(3));
            same("trellis", () -> wall.trellis(at, leaves), () -> plain.trellis(at, leaves));
        }
    }

    private void callSomething() {
        int row = pick(40) == 0 ? pick(12) - 2 : pick(8);
        int column = pick(40) == 0 ? pick(16) - 2 : pick(12);
        switch (pick(20)) {
            case 0, 1, 2:
                growAWhile();
                break;
            case 3, 4, 5:
                prune(row, column);
                break;
            case 6, 7:
                sameOrder("plant", () -> wall.plant(column), () -> plain.plant(column));
                break;
            case 8:
                change(column);
                break;
            case 9:
                same("bestCut", wall::bestCut, plain::bestCut);
                break;
            case 10:
                same("repeatsIn", wall::repeatsIn, plain::repeatsIn);
                break;
            case 11, 12, 13:
                askOfWall();
                break;
            default:
                askOfCell(row, column);
                break;
        }
    }

    /** A run that does not hurry rarely comes to the end of a game; a hurried one rests just before it, and at it. */
    private void growAWhile() {
        int beforeTheLast = 59 - plain.generation();
        int times = hurried && beforeTheLast > 1 ? Math.min(beforeTheLast, 1 + pick(16)) : 1;
        for (int time = 0; time < times; time++) {
            same("grow", wall::grow, plain::grow);
        }
    }

    /** The styles of a run: nobody prunes, at random, at random, the best leaf. */
    private void prune(int row, int column) {
        if (style == 0) {
            return;
        }
        int best = plain.bestCut();
        int atRow = style == 3 && best >= 0 ? best / 12 : row;
        int atColumn = style == 3 && best >= 0 ? best % 12 : column;
        same("cut", () -> wall.cut(atRow, atColumn), () -> plain.cut(atRow, atColumn));
    }

    private void change(int column) {
        switch (pick(8)) {
            case 0, 1, 2:
                int leaves = pick(10);
                same("trellis", () -> wall.trellis(column, leaves), () -> plain.trellis(column, leaves));
                break;
            case 3, 4, 5:
                int side = pick(5) - 1;
                sameOrder("sides", () -> wall.sides(side), () -> plain.sides(side));
                break;
            case 6:
                sameOrder("clear", wall::clear, plain::clear);
                break;
            default:
                clearAtTheEnd();
                break;
        }
    }

    private void clearAtTheEnd() {
        if (plain.generation() == 60) {
            sameOrder("clear", wall::clear, plain::clear);
        }
    }

    private void askOfWall() {
        same("leaves", wall::leaves, plain::leaves);
        same("lit", wall::lit, plain::lit);
        same("generation", wall::generation, plain::generation);
        same("cutsLeft", wall::cutsLeft, plain::cutsLeft);
        same("broken", wall::broken, plain::broken);
        same("leavesNext", wall::leavesNext, plain::leavesNext);
    }

    private void askOfCell(int row, int column) {
        same("look", () -> wall.look(row, column), () -> plain.look(row, column));
        same("shadeOf", () -> wall.shadeOf(row, column), () -> plain.shadeOf(row, column));
        same("holdersOf", () -> wall.holdersOf(row, column), () -> plain.holdersOf(row, column));
        same("neighboursOf", () -> wall.neighboursOf(row, column), () -> plain.neighboursOf(row, column));
        same("leavesIn", () -> wall.leavesIn(column), () -> plain.leavesIn(column));
    }

    private void sameOrder(String call, Order got, Order want) {
        same(call, () -> obeyed(got), () -> obeyed(want));
    }

    private static int obeyed(Order order) {
        order.give();
        return 0;
    }

    private void same(String call, Answer got, Answer want) {
        if (calls < CALLS) {
            calls++;
            Check.due("run " + run + ", call " + calls + ": " + call, answered(got), answered(want));
        }
    }

    private static String answered(Answer answer) {
        try {
            return "" + answer.give();
        } catch (RuntimeException e) {
            return e.getClass().getSimpleName();
        }
    }
}
