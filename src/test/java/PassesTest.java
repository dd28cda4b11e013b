/** Promises 7 (rough), 8 (fine), 13 (moves), 14 (move) and 15 (way). */
final class PassesTest {
    private static final Checks checks = new Checks();

    public static void main(String[] args) {
        roughGoesLevelByLevel();
        roughKeepsTheSkin();
        roughCountsLevelsGoneOnceMore();
        roughByWideToolLeavesEdges();
        fineGoesToAndFro();
        fineGoesTheLastRowOnce();
        fineCarvesAtItsLift();
        wayIsOfTheLatestPass();
        checks.finish();
    }

    private static void roughGoesLevelByLevel() {
        ReliefPasses relief = Reliefs.of(Reliefs.row(0, 4), Reliefs.row(8, 2));
        relief.stock(10);
        checks.due("rough(0, 3, 0)", relief.rough(0, 3, 0), 3);
        checks.due("moves of rough", Reliefs.moves(relief), "0,0,7 1,0,7 1,1,7 0,0,4 1,0,4 1,1,4 0,0,1");
        checks.due("moves()", relief.moves(), 7);
        checks.due("way()", relief.way(), (1 + 1) + (2 + 3) + (1 + 1) + (2 + 3));
        checks.due("made by rough", Reliefs.made(relief, 2, 2), "1 4 / 10 4");
    }

    private static void roughKeepsTheSkin() {
        ReliefPasses relief = Reliefs.of(Reliefs.row(0, 4), Reliefs.row(8, 2));
        relief.stock(10);
        checks.due("rough(0, 3, 3): 7 is just enough over 4", relief.rough(0, 3, 3), 2);
        checks.due("made with a skin of 3", Reliefs.made(relief, 2, 2), "4 7 / 10 7");
        checks.due("rough(0, 3, 4)", relief.rough(0, 3, 4), 2);
        checks.due("moves with a skin of 4", Reliefs.moves(relief), "0,0,7 1,1,7 0,0,4");
        checks.due("rough(0, 1, 1000)", relief.rough(0, 1, 1000), 0);
        checks.due("moves where nothing was carved", relief.moves(), 0);
        checks.due("way where nothing was carved", relief.way(), 0);
        checks.due("made where nothing was carved", Reliefs.made(relief, 2, 2), "4 7 / 10 7");
    }

    private static void roughCountsLevelsGoneOnceMore() {
        ReliefPasses relief = new ReliefPasses(3, 1);
        relief.stock(10);
        relief.fine(0, 1);
        checks.due("made before", Reliefs.made(relief, 3, 1), "0 0 0");
        checks.due("rough over what is gone", relief.rough(0, 4, 0), 2);
        checks.due("its moves", relief.moves(), 6);
        checks.due("made is never raised", Reliefs.made(relief, 3, 1), "0 0 0");
        checks.due("rough once more", relief.rough(0, 4, 0), 2);
        checks.due("its moves once more", relief.moves(), 6);
    }

    private static void roughByWideToolLeavesEdges() {
        ReliefPasses relief = Reliefs.of(Reliefs.row(6, 0, 0, 0, 0));
        relief.stock(10);
        relief.tool(1, ReliefPasses.CONE, 2);
        checks.due("lifts of the cone", relief.lift(1, 0, 1) * 10 + relief.lift(2, 0, 1), 54);
        checks.due("rough(1, 5, 0)", relief.rough(1, 5, 0), 1);
        checks.due("moves of the cone", Reliefs.moves(relief), "1,0,5 2,0,5 3,0,5 4,0,5");
        checks.due("made by the cone", Reliefs.made(relief, 5, 1), "6 5 5 5 5");
        checks.due("rough(1, 9, 0)", relief.rough(1, 9, 0), 1);
        checks.due("made by the cone, deeper", Reliefs.made(relief, 5, 1), "6 3 2 1 1");
        checks.due("nothing wanted is cut", relief.below(), false);
    }

    private static void fineGoesToAndFro() {
        ReliefPasses relief = Reliefs.of(Reliefs.row(1, 2, 3), Reliefs.row(4, 5, 6), Reliefs.row(7, 8, 9));
        checks.due("fine(0, 1)", relief.fine(0, 1), 3);
        checks.due("moves of fine", Reliefs.moves(relief),
            "0,0,1 1,0,2 2,0,3 2,1,6 1,1,5 0,1,4 0,2,7 1,2,8 2,2,9");
        checks.due("way of fine", relief.way(), 2 + 2 + 4 + 2 + 2 + 4 + 2 + 2);
        checks.due("made by fine", Reliefs.made(relief, 3, 3), "1 2 3 / 4 5 6 / 7 8 9");
        checks.due("fine(0, 2)", relief.fine(0, 2), 2);
        checks.due("moves of fine(0, 2)", Reliefs.moves(relief), "0,0,1 1,0,2 2,0,3 2,2,9 1,2,8 0,2,7");
    }

    private static void fineGoesTheLastRowOnce() {
        int[][] due = {{1, 5}, {2, 3}, {3, 3}, {4, 2}, {5, 2}, {20, 2}};
        for (int[] pair : due) {
            ReliefPasses relief = new ReliefPasses(2, 5);
            checks.due("fine(0, " + pair[0] + ") in 5 rows", relief.fine(0, pair[0]), pair[1]);
            checks.due("its moves", relief.moves(), 2 * pair[1]);
            checks.due("it ends in the last row", relief.move(relief.moves() - 1, 1), 4);
        }
        ReliefPasses relief = new ReliefPasses(2, 5);
        relief.fine(0, 3);
        checks.due("moves of fine(0, 3)", Reliefs.moves(relief), "0,0,0 1,0,0 1,3,0 0,3,0 0,4,0 1,4,0");
        checks.due("rows gone", Reliefs.made(relief, 2, 5), "0 0 / 1000 1000 / 1000 1000 / 0 0 / 0 0");
        relief.fine(0, 5);
        checks.due("moves of fine(0, 5): the last row from the right", Reliefs.moves(relief),
            "0,0,0 1,0,0 1,4,0 0,4,0");
        checks.due("fine of one row", new ReliefPasses(20, 1).fine(0, 20), 1);
    }

    private static void fineCarvesAtItsLift() {
        ReliefPasses relief = Reliefs.of(Reliefs.row(6, 0, 0, 0, 0, 0));
        relief.stock(10);
        relief.tool(1, ReliefPasses.BALL, 2);
        checks.due("fine(1, 1)", relief.fine(1, 1), 1);
        checks.due("moves of the ball", Reliefs.moves(relief), "0,0,6 1,0,5 2,0,4 3,0,0 4,0,0 5,0,0");
        checks.due("made by the ball", Reliefs.made(relief, 6, 1), "6 2 1 0 0 0");
        checks.due("nothing wanted is cut", relief.below(), false);
        ReliefPasses high = Reliefs.of(Reliefs.row(0, 0));
        high.stock(5);
        high.put(0, 0, 50);
        checks.due("fine above the stock", high.fine(0, 1), 1);
        checks.due("its moves", Reliefs.moves(high), "0,0,50 1,0,0");
        checks.due("made is not raised", Reliefs.made(high, 2, 1), "5 0");
        checks.due("its way", high.way(), 51);
    }

    private static void wayIsOfTheLatestPass() {
        ReliefPasses relief = Reliefs.of(Reliefs.row(0, 10), Reliefs.row(0, 0));
        relief.fine(0, 1);
        checks.due("way of fine", relief.way(), 11 + 11 + 1);
        relief.fine(0, 1);
        checks.due("way of the same again", relief.way(), 11 + 11 + 1);
        relief.rough(0, 999, 0);
        checks.due("way of rough, where one is left out", Reliefs.moves(relief), "0,0,1 0,1,1 1,1,1");
        checks.due("way of rough", relief.way(), 2);
        relief.put(0, 0, 900);
        relief.stock(1000);
        relief.tool(0, ReliefPasses.CONE, 3);
        checks.due("moves stay when other things change", relief.moves(), 3);
        checks.due("way stays when other things change", relief.way(), 2);
    }
}
