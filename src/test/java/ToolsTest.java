/** Promises 3 (tool), 5 (lift) and 6 (profile). */
final class ToolsTest {
    private static final Checks checks = new Checks();

    public static void main(String[] args) {
        toolTellsWhetherItIsAnother();
        profilesAreAsTheTermsSay();
        profileIsWhatTheToolIsNow();
        liftIsTheGreatestLessProfile();
        checks.finish();
    }

    private static void toolTellsWhetherItIsAnother() {
        ReliefPasses relief = new ReliefPasses(3, 3);
        checks.due("tool(0, 0, 0), as at first", relief.tool(0, 0, 0), false);
        checks.due("another kind", relief.tool(0, 1, 0), true);
        checks.due("another radius", relief.tool(0, 1, 5), true);
        checks.due("both the same", relief.tool(0, 1, 5), false);
        checks.due("both other ones", relief.tool(0, 2, 4), true);
        checks.due("the other tools are as they were", relief.tool(3, 0, 0), false);
        checks.due("the last tool", relief.tool(3, 2, 5), true);
    }

    /** Every profile by the words of the terms: squares are compared, no root is worked out. */
    private static void profilesAreAsTheTermsSay() {
        for (int kind = 0; kind <= 2; kind++) {
            for (int r = 5; r >= 0; r--) {
                ReliefPasses relief = new ReliefPasses(1, 1);
                relief.tool(kind, kind, 5);
                relief.tool(kind, kind, r);
                for (int dy = -7; dy <= 7; dy++) {
                    for (int dx = -7; dx <= 7; dx++) {
                        String name = "profile of kind " + kind + ", radius " + r + " at " + dx + ", " + dy;
                        checkProfile(name, kind, r, dx * dx + dy * dy, relief.profile(kind, dx, dy));
                    }
                }
            }
        }
    }

    private static void checkProfile(String name, int kind, int r, int d, int got) {
        if (d > r * r) {
            checks.due(name, got, ReliefPasses.NONE);
        } else if (kind == ReliefPasses.FLAT) {
            checks.due(name, got, 0);
        } else if (kind == ReliefPasses.BALL) {
            int root = r - got;
            checks.due(name + " answered " + got,
                root >= 0 && root * root <= r * r - d && (root + 1) * (root + 1) > r * r - d, true);
        } else {
            checks.due(name + " answered " + got,
                got >= 0 && got * got >= d && (got == 0 || (got - 1) * (got - 1) < d), true);
        }
    }

    private static void profileIsWhatTheToolIsNow() {
        ReliefPasses relief = new ReliefPasses(1, 1);
        relief.tool(2, ReliefPasses.CONE, 5);
        checks.due("cone of 5 at 3, 4", relief.profile(2, 3, 4), 5);
        checks.due("cone of 5 at 1, 1", relief.profile(2, 1, -1), 2);
        relief.tool(2, ReliefPasses.BALL, 3);
        checks.due("ball of 3 at 3, 4", relief.profile(2, 3, 4), ReliefPasses.NONE);
        checks.due("ball of 3 at 1, 1", relief.profile(2, 1, -1), 1);
        checks.due("ball of 3 at 3, 0", relief.profile(2, -3, 0), 3);
        relief.tool(2, ReliefPasses.FLAT, 1);
        checks.due("flat of 1 at 1, 1", relief.profile(2, 1, -1), ReliefPasses.NONE);
        checks.due("flat of 1 at 0, 1", relief.profile(2, 0, 1), 0);
    }

    private static void liftIsTheGreatestLessProfile() {
        ReliefPasses relief = Reliefs.of(
            Reliefs.row(0, 0, 0, 0, 0),
            Reliefs.row(0, 0, 9, 0, 0),
            Reliefs.row(0, 0, 0, 0, 4));
        relief.tool(1, ReliefPasses.FLAT, 2);
        relief.tool(2, ReliefPasses.BALL, 2);
        relief.tool(3, ReliefPasses.CONE, 2);
        checks.due("lift(2, 1, 0): its own place", relief.lift(2, 1, 0), 9);
        checks.due("lift(1, 1, 0): no other place", relief.lift(1, 1, 0), 0);
        checks.due("lift(0, 1, 1): just reached", relief.lift(0, 1, 1), 9);
        checks.due("lift(0, 0, 1): not reached over the corner", relief.lift(0, 0, 1), 0);
        checks.due("lift(1, 1, 2): ball beside", relief.lift(1, 1, 2), 8);
        checks.due("lift(0, 1, 2): ball at its rim", relief.lift(0, 1, 2), 7);
        checks.due("lift(3, 2, 3): cone over a corner", relief.lift(3, 2, 3), 7);
        checks.due("lift(4, 2, 3): the nearer one wins", relief.lift(4, 2, 3), 4);
        checks.due("lift(4, 1, 3): the higher one wins", relief.lift(4, 1, 3), 7);
        checks.due("made is not changed by lift", relief.sum(), 15000 - 13);
    }
}
