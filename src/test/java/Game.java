public class Game {
    public static void main(String[] args) {
        VineWall wall = new VineWall();
        wall.sides(VineWall.ROUND);    // before the first generation
        wall.trellis(4, 2);            // the column 4 bears 2 leaves, the others 5
        wall.plant(5);                 // at the foot of the column 5
        for (int time = 0; time < 4; time++) {
            wall.grow();               // a generation goes by
        }
        int cell = wall.bestCut();     // 12 times the row, and the column, together
        if (cell >= 0) {
            wall.cut(cell / 12, cell % 12);
        }
        for (int row = 7; row >= 0; row--) {
            for (int column = 0; column < 12; column++) {
                System.out.print(wall.look(row, column));
            }
            System.out.println();
        }
        System.out.println(wall.leaves() + " leaves, " + wall.lit() + " in the light, "
            + wall.broken() + " broken, " + wall.cutsLeft() + " cuts left");
    }
}
