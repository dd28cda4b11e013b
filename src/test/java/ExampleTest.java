/** The example of README.md, call by call, with the answers that it tells. */
final class ExampleTest {
    private static final int NONE = ReliefPasses.NONE;
    private static final Checks checks = new Checks();

    public static void main(String[] args) {
        ReliefPasses relief = new ReliefPasses(6, 4);
        tellHeightsAndTools(relief);
        goRoughlyAndFinely(relief);
        takeWhatIsLeft(relief);
        repeatAndMerge(relief);
        checks.finish();
    }

    private static void tellHeightsAndTools(ReliefPasses relief) {
        checks.due("relief.put(1, 1, 12)", relief.put(1, 1, 12), true);
        checks.due("relief.put(3, 1, 9)", relief.put(3, 1, 9), true);
        checks.due("relief.stock(20)", relief.stock(20), 12);
        checks.due("relief.tool(0, ReliefPasses.FLAT, 1)", relief.tool(0, ReliefPasses.FLAT, 1), true);
        checks.due("relief.tool(1, ReliefPasses.BALL, 2)", relief.tool(1, ReliefPasses.BALL, 2), true);
        checks.due("relief.profile(1, 1, 1)", relief.profile(1, 1, 1), 1);
        checks.due("relief.profile(1, 2, 1)", relief.profile(1, 2, 1), NONE);
        checks.due("relief.lift(2, 1, 1)", relief.lift(2, 1, 1), 11);
    }

    private static void goRoughlyAndFinely(ReliefPasses relief) {
        checks.due("relief.rough(0, 4, 2)", relief.rough(0, 4, 2), 4);
        checks.due("relief.made(3, 1)", relief.made(3, 1), 12);
        checks.due("relief.fine(1, 2)", relief.fine(1, 2), 3);
        checks.due("relief.made(3, 1) once more", relief.made(3, 1), 9);
        checks.due("relief.moves()", relief.moves(), 18);
        checks.due("relief.move(0, 2)", relief.move(0, 2), 11);
        checks.due("relief.way()", relief.way(), 85);
    }

    private static void takeWhatIsLeft(ReliefPasses relief) {
        checks.due("relief.rest(3, ReliefPasses.NONE)", relief.rest(3, NONE), 3);
        checks.due("relief.rest(3, 1)", relief.rest(3, 1), 1);
        checks.due("relief.sum()", relief.sum(), 28);
        checks.due("relief.fine(2, 1)", relief.fine(2, 1), 4);
        checks.due("relief.sum() once more", relief.sum(), 0);
    }

    private static void repeatAndMerge(ReliefPasses relief) {
        checks.due("relief.merge(0, 0)", relief.merge(0, 0), 0);
        checks.due("relief.repeat(2, 2)", relief.repeat(2, 2), 5);
        checks.due("relief.below()", relief.below(), true);
        checks.due("relief.merge(2, 0)", relief.merge(2, 0), 5);
        checks.due("relief.below() once more", relief.below(), false);
    }
}
