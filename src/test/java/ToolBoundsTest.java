/** The boundary cases of promises 3 (tool), 5 (lift) and 6 (profile). */
final class ToolBoundsTest {
    private static final int FLAT = ReliefPasses.FLAT;
    private static final int BALL = ReliefPasses.BALL;
    private static final int CONE = ReliefPasses.CONE;
    private static final int NONE = ReliefPasses.NONE;
    private static final Checks checks = new Checks();
    private static final Bounds fresh = Bounds.ofFresh(checks);
    private static final Bounds worked = Bounds.ofWorked(checks);

    public static void main(String[] args) {
        toolsAre0To3();
        kindsAre0To2();
        radiiAre0To5();
        toolIsNamedFirst();
        somethingIsAnotherOne();
        refusedToolIsTheSame();
        profileOnlyOfAToolThereIs();
        profileAtAnyDistance();
        profileAtTheRim();
        profileOfTheNarrowestTool();
        ballTakesTheGreatestNumber();
        coneTakesTheLeastNumber();
        liftOnlyWhereThereIsAPlaceAndATool();
        liftOfTheSmallestRelief();
        liftAtTheBoundsOfHeights();
        liftCoversOnlyTheRelief();
        liftReachesTheRim();
        checks.finish();
    }

    /** "TOOLS 0 .. 3" */
    private static void toolsAre0To3() {
        worked.number("tool(t, CONE, 3)", 0, 3, Bounds.NO_PLACE, (relief, t) -> relief.tool(t, CONE, 3) ? 1 : 0);
    }

    /** "another kind" */
    private static void kindsAre0To2() {
        worked.number("tool(1, kind, 3)", 0, 2, Bounds.BAD_NUMBER, (relief, kind) -> relief.tool(1, kind, 3) ? 1 : 0);
        worked.number("tool(2, kind, 0)", 0, 2, Bounds.BAD_NUMBER, (relief, kind) -> relief.tool(2, kind, 0) ? 1 : 0);
    }

    /** "radius is not 0 .. 5" */
    private static void radiiAre0To5() {
        for (int kind = 0; kind < 3; kind++) {
            int k = kind;
            worked.number("tool(1, " + k + ", r)", 0, 5, Bounds.BAD_NUMBER,
                (relief, r) -> relief.tool(1, k, r) ? 1 : 0);
        }
    }

    /** "of several exceptions the one named first is thrown" */
    private static void toolIsNamedFirst() {
        worked.refused("tool(4, 3, 6)", Bounds.NO_PLACE, relief -> relief.tool(4, 3, 6) ? 1 : 0);
        worked.refused("tool(-1, -1, -1)", Bounds.NO_PLACE, relief -> relief.tool(-1, -1, -1) ? 1 : 0);
        worked.refused("tool(max, 0, 6)", Bounds.NO_PLACE, relief -> relief.tool(Integer.MAX_VALUE, 0, 6) ? 1 : 0);
        worked.refused("tool(3, 3, 6)", Bounds.BAD_NUMBER, relief -> relief.tool(3, 3, 6) ? 1 : 0);
    }

    /** "whether something is another one", also where no profile tells */
    private static void somethingIsAnotherOne() {
        for (int tool = 0; tool < 4; tool++) {
            ReliefPasses relief = new ReliefPasses(1, 1);
            checks.due("tool " + tool + " as at first", relief.tool(tool, FLAT, 0), false);
            checks.due("tool " + tool + ", only the kind", relief.tool(tool, CONE, 0), true);
            checks.due("tool " + tool + ", only the kind again", relief.tool(tool, BALL, 0), true);
            checks.due("tool " + tool + ", only the radius", relief.tool(tool, BALL, 1), true);
            checks.due("tool " + tool + ", a kind with the same profile", relief.tool(tool, CONE, 1), true);
            checks.due("tool " + tool + ", the widest", relief.tool(tool, CONE, 5), true);
            checks.due("tool " + tool + ", the widest again", relief.tool(tool, CONE, 5), false);
            for (int other = 0; other < 4; other++) {
                checks.due("tool " + other + " beside tool " + tool, relief.tool(other, CONE, 5), other != tool);
            }
        }
    }

    /** "A call that throws changes nothing": neither the kind nor the radius. */
    private static void refusedToolIsTheSame() {
        ReliefPasses relief = new ReliefPasses(1, 1);
        relief.tool(3, BALL, 5);
        checks.dueBadNumber("tool(3, CONE, 6)", () -> relief.tool(3, CONE, 6) ? 1 : 0);
        checks.dueBadNumber("tool(3, 3, 2)", () -> relief.tool(3, 3, 2) ? 1 : 0);
        checks.due("profile behind what was refused", relief.profile(3, 5, 0), 5);
        checks.due("tool behind what was refused", relief.tool(3, BALL, 5), false);
    }

    /** "IndexOutOfBoundsException: no such tool" */
    private static void profileOnlyOfAToolThereIs() {
        worked.number("profile(t, 0, 0)", 0, 3, Bounds.NO_PLACE, (relief, t) -> relief.profile(t, 0, 0));
        worked.number("profile(t, 9, 9)", 0, 3, Bounds.NO_PLACE, (relief, t) -> relief.profile(t, 9, 9));
        worked.refused("profile(4, min, max)", Bounds.NO_PLACE,
            relief -> relief.profile(4, Integer.MIN_VALUE, Integer.MAX_VALUE));
    }

    /** "NONE where it does not cover", also where dx * dx + dy * dy would wrap around */
    private static void profileAtAnyDistance() {
        int[] far = {Integer.MIN_VALUE, Integer.MIN_VALUE + 1, -(1 << 30), -131072, -65536, -46341, -46340, -32768, -6,
            6, 32768, 46340, 46341, 65536, 131072, 1 << 30, Integer.MAX_VALUE - 1, Integer.MAX_VALUE};
        for (int kind = 0; kind < 3; kind++) {
            ReliefPasses relief = new ReliefPasses(20, 20);
            relief.tool(0, kind, 5);
            for (int a : far) {
                checks.due("profile of kind " + kind + " at " + a + ", 0", relief.profile(0, a, 0), NONE);
                checks.due("profile of kind " + kind + " at 0, " + a, relief.profile(0, 0, a), NONE);
                checks.due("profile of kind " + kind + " at " + a + ", 3", relief.profile(0, a, 3), NONE);
                for (int b : far) {
                    checks.due("profile of kind " + kind + " at " + a + ", " + b, relief.profile(0, a, b), NONE);
                }
            }
        }
    }

    /** "with d = dx * dx + dy * dy not above r * r" */
    private static void profileAtTheRim() {
        int[][] rims = {{1, 0, 1}, {2, 0, 2}, {3, 0, 3}, {4, 0, 4}, {5, 0, 5}, {3, 4, 5}, {4, 3, 5}};
        ReliefPasses relief = new ReliefPasses(1, 1);
        for (int[] rim : rims) {
            for (int kind = 0; kind < 3; kind++) {
                relief.tool(1, kind, rim[2]);
                String name = "kind " + kind + " of " + rim[2] + " at ";
                int due = kind == FLAT ? 0 : rim[2];
                for (int sign = -1; sign <= 1; sign += 2) {
                    int x = sign * rim[0];
                    int y = rim[1];
                    checks.due(name + x + ", " + y, relief.profile(1, x, y), due);
                    checks.due(name + y + ", " + x, relief.profile(1, y, x), due);
                    checks.due(name + x + ", " + -y, relief.profile(1, x, -y), due);
                    checks.due(name + "one more along x", relief.profile(1, x + sign, y), NONE);
                    checks.due(name + "one more along y", relief.profile(1, x, y + 1), NONE);
                    checks.due(name + "one more along y, up", relief.profile(1, x, -y - 1), NONE);
                }
            }
        }
    }

    /** "kind 0, r 0 at first", and every kind at r 0 */
    private static void profileOfTheNarrowestTool() {
        for (int tool = 0; tool < 4; tool++) {
            int t = tool;
            fresh.due("profile(" + t + ", 0, 0) at first", 0, relief -> relief.profile(t, 0, 0));
            fresh.due("profile(" + t + ", -1, 0) at first", NONE, relief -> relief.profile(t, -1, 0));
            fresh.due("profile(" + t + ", 0, 1) at first", NONE, relief -> relief.profile(t, 0, 1));
        }
        for (int kind = 0; kind < 3; kind++) {
            ReliefPasses relief = new ReliefPasses(1, 1);
            relief.tool(0, kind, 5);
            relief.tool(0, kind, 0);
            checks.due("kind " + kind + " of 0 at its middle", relief.profile(0, 0, 0), 0);
            for (int d = -1; d <= 1; d += 2) {
                checks.due("kind " + kind + " of 0 at " + d + ", 0", relief.profile(0, d, 0), NONE);
                checks.due("kind " + kind + " of 0 at 0, " + d, relief.profile(0, 0, d), NONE);
            }
        }
    }

    /** "r less the greatest whole number whose square is not above r * r - d": at, below and above whole squares */
    private static void ballTakesTheGreatestNumber() {
        ReliefPasses relief = new ReliefPasses(1, 1);
        relief.tool(2, BALL, 5);
        int[][] due = {{0, 0, 0}, {1, 0, 1}, {2, 0, 1}, {2, 2, 1}, {3, 0, 1}, {3, 1, 2}, {3, 2, 2}, {4, 0, 2},
            {4, 1, 3}, {3, 3, 3}, {4, 2, 3}, {4, 3, 5}, {5, 0, 5}, {4, 4, NONE}, {5, 1, NONE}};
        for (int[] d : due) {
            checks.due("ball of 5 at " + d[0] + ", " + d[1], relief.profile(2, d[0], d[1]), d[2]);
            checks.due("ball of 5 at " + -d[1] + ", " + d[0], relief.profile(2, -d[1], d[0]), d[2]);
        }
    }

    /** "the least whole number whose square is not below d": at, below and above whole squares */
    private static void coneTakesTheLeastNumber() {
        ReliefPasses relief = new ReliefPasses(1, 1);
        relief.tool(2, CONE, 5);
        int[][] due = {{0, 0, 0}, {1, 0, 1}, {1, 1, 2}, {2, 0, 2}, {2, 1, 3}, {2, 2, 3}, {3, 0, 3}, {3, 1, 4},
            {3, 2, 4}, {4, 0, 4}, {4, 1, 5}, {3, 3, 5}, {4, 2, 5}, {4, 3, 5}, {5, 0, 5}, {4, 4, NONE}, {5, 1, NONE}};
        for (int[] d : due) {
            checks.due("cone of 5 at " + d[0] + ", " + d[1], relief.profile(2, d[0], d[1]), d[2]);
            checks.due("cone of 5 at " + -d[1] + ", " + d[0], relief.profile(2, -d[1], d[0]), d[2]);
        }
    }

    /** "IndexOutOfBoundsException: no such place, tool" */
    private static void liftOnlyWhereThereIsAPlaceAndATool() {
        worked.number("lift(x, 1, 1)", 0, 2, Bounds.NO_PLACE, (relief, x) -> relief.lift(x, 1, 1));
        worked.number("lift(2, y, 1)", 0, 1, Bounds.NO_PLACE, (relief, y) -> relief.lift(2, y, 1));
        worked.number("lift(2, 1, t)", 0, 3, Bounds.NO_PLACE, (relief, t) -> relief.lift(2, 1, t));
        worked.refused("lift(3, 2, 4)", Bounds.NO_PLACE, relief -> relief.lift(3, 2, 4));
    }

    private static void liftOfTheSmallestRelief() {
        for (int kind = 0; kind < 3; kind++) {
            for (int radius : new int[] {0, 1, 5}) {
                ReliefPasses relief = new ReliefPasses(1, 1);
                relief.tool(3, kind, radius);
                for (int v : new int[] {0, 1, 999, 1000}) {
                    relief.put(0, 0, v);
                    checks.due("lift of kind " + kind + ", radius " + radius + " over " + v, relief.lift(0, 0, 3), v);
                }
            }
        }
    }

    /** "the greatest WANTED height less PROFILE": never below 0, as the middle is covered; 1000 at most */
    private static void liftAtTheBoundsOfHeights() {
        ReliefPasses relief = new ReliefPasses(3, 1);
        relief.tool(0, CONE, 5);
        checks.due("lift over nothing but 0", relief.lift(1, 0, 0), 0);
        int[] beside = {0, 1, 2, 1000};
        int[] due = {0, 0, 1, 999};
        for (int i = 0; i < beside.length; i++) {
            relief.put(0, 0, beside[i]);
            checks.due("lift beside " + beside[i], relief.lift(1, 0, 0), due[i]);
        }
        relief.put(1, 0, 999);
        checks.due("lift where both are the greatest", relief.lift(1, 0, 0), 999);
        relief.put(1, 0, 1000);
        checks.due("lift over 1000", relief.lift(1, 0, 0), 1000);
    }

    /** "of all places of the relief that it covers": none is taken from the other end of a row */
    private static void liftCoversOnlyTheRelief() {
        int[][] corners = {{0, 0}, {19, 0}, {0, 19}, {19, 19}};
        for (int[] high : corners) {
            ReliefPasses relief = new ReliefPasses(20, 20);
            relief.tool(0, FLAT, 5);
            relief.put(high[0], high[1], 70);
            for (int[] corner : corners) {
                checks.due("lift over " + corner[0] + ", " + corner[1] + ", high is " + high[0] + ", " + high[1],
                    relief.lift(corner[0], corner[1], 0), corner == high ? 70 : 0);
            }
        }
        ReliefPasses row = Reliefs.of(Reliefs.row(0, 0, 9), Reliefs.row(0, 0, 0), Reliefs.row(8, 0, 0));
        row.tool(0, FLAT, 1);
        checks.due("lift at the left of the row behind", row.lift(0, 1, 0), 8);
        checks.due("lift at the right of the row before", row.lift(2, 1, 0), 9);
        checks.due("lift in the middle", row.lift(1, 1, 0), 0);
    }

    private static void liftReachesTheRim() {
        ReliefPasses relief = new ReliefPasses(20, 20);
        relief.put(10, 10, 500);
        int[] dues = {500, 495, 495};
        for (int kind = 0; kind < 3; kind++) {
            relief.tool(1, kind, 5);
            checks.due("lift of kind " + kind + " five to the left", relief.lift(5, 10, 1), dues[kind]);
            checks.due("lift of kind " + kind + " five down", relief.lift(10, 15, 1), dues[kind]);
            checks.due("lift of kind " + kind + " three and four", relief.lift(13, 6, 1), dues[kind]);
            checks.due("lift of kind " + kind + " six to the left", relief.lift(4, 10, 1), 0);
            checks.due("lift of kind " + kind + " six up", relief.lift(10, 4, 1), 0);
            checks.due("lift of kind " + kind + " four and four", relief.lift(14, 14, 1), 0);
        }
    }
}
