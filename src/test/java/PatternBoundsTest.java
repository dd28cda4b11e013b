/** The boundary cases of promises 16 (repeat) and 17 (merge). */
final class PatternBoundsTest {
    private static final Checks checks = new Checks();
    private static final Bounds fresh = Bounds.ofFresh(checks);
    private static final Bounds worked = Bounds.ofWorked(checks);
    private static final Bounds roughed = Bounds.ofRoughed(checks);

    public static void main(String[] args) {
        repeatOnlyBy1To20();
        repeatAroundTheSides();
        repeatInTheLargestRelief();
        repeatInTheSmallestRelief();
        repeatChangesOnlyWanted();
        mergeRulesAre0To3();
        mergeNumbersAre0To1000();
        mergeOnlyWhereSomeWereKept();
        mergeNamesTheNumberFirst();
        refusedMergeKeepsNothing();
        heightsOf0AreKeptToo();
        mergeKeepsWithoutChange();
        mergeOfTheSameIsNoOther();
        sumIsAtLeast0();
        sumIsAtMost1000();
        sumAtAllBounds();
        mergeChangesOnlyWanted();
        mergeMayBeAboveTheStock();
        checks.finish();
    }

    /** "dx or dy is not 1 .. 20" */
    private static void repeatOnlyBy1To20() {
        worked.number("repeat(dx, 1)", 1, 20, Bounds.BAD_NUMBER, (relief, dx) -> relief.repeat(dx, 1));
        worked.number("repeat(1, dy)", 1, 20, Bounds.BAD_NUMBER, (relief, dy) -> relief.repeat(1, dy));
        worked.refused("repeat(0, 0)", Bounds.BAD_NUMBER, relief -> relief.repeat(0, 0));
        worked.refused("repeat(21, 0)", Bounds.BAD_NUMBER, relief -> relief.repeat(21, 0));
        worked.refused("repeat(min, max)", Bounds.BAD_NUMBER,
            relief -> relief.repeat(Integer.MIN_VALUE, Integer.MAX_VALUE));
    }

    private static ReliefPasses counted(int width, int height) {
        ReliefPasses relief = new ReliefPasses(width, height);
        for (int y = 0; y < height; y++) {
            for (int x = 0; x < width; x++) {
                relief.put(x, y, 1 + 20 * y + x);
            }
        }
        return relief;
    }

    /** "that at x modulo dx, y modulo dy", where these are one less than, just and one more than the sides */
    private static void repeatAroundTheSides() {
        int[][] due = {{1, 1, 11}, {2, 3, 6}, {3, 3, 3}, {4, 3, 0}, {5, 3, 0}, {20, 3, 0}, {4, 1, 8}, {4, 2, 4},
            {4, 4, 0}, {4, 20, 0}, {20, 20, 0}, {20, 2, 4}, {3, 20, 3}, {3, 2, 6}};
        for (int[] d : due) {
            ReliefPasses relief = counted(4, 3);
            StringBuilder wanted = new StringBuilder();
            for (int y = 0; y < 3; y++) {
                for (int x = 0; x < 4; x++) {
                    wanted.append(x == 0 ? "" : " ").append(1 + 20 * (y % d[1]) + x % d[0]);
                }
                wanted.append(y == 2 ? "" : " / ");
            }
            String name = "repeat(" + d[0] + ", " + d[1] + ") in 4 by 3";
            checks.due(name, relief.repeat(d[0], d[1]), d[2]);
            checks.due("wanted behind " + name, Reliefs.wanted(relief, 4, 3, 0), wanted.toString());
            checks.due(name + " again", relief.repeat(d[0], d[1]), 0);
        }
    }

    private static void repeatInTheLargestRelief() {
        ReliefPasses relief = new ReliefPasses(20, 20);
        relief.put(0, 0, 1000);
        checks.due("repeat(20, 20)", relief.repeat(20, 20), 0);
        checks.due("repeat(19, 19): the last row and column", relief.repeat(19, 19), 3);
        checks.due("wanted in the last corner", relief.lift(19, 19, 0), 1000);
        checks.due("wanted at the end of the first row", relief.lift(19, 0, 0), 1000);
        checks.due("wanted beside it", relief.lift(18, 0, 0), 0);
        checks.due("repeat(1, 20): the first column", relief.repeat(1, 20), 2 * 18);
        checks.due("repeat(20, 1): the first row", relief.repeat(20, 1), 18 * 20);
        checks.due("repeat(1, 1)", relief.repeat(1, 1), 0);
    }

    private static void repeatInTheSmallestRelief() {
        ReliefPasses relief = new ReliefPasses(1, 1);
        relief.put(0, 0, 5);
        checks.due("repeat(1, 1) in 1 by 1", relief.repeat(1, 1), 0);
        checks.due("repeat(20, 20) in 1 by 1", relief.repeat(20, 20), 0);
        checks.due("wanted in 1 by 1", relief.lift(0, 0, 0), 5);
    }

    private static void repeatChangesOnlyWanted() {
        ReliefPasses relief = Samples.worked();
        String made = Reliefs.made(relief, 3, 2);
        checks.due("repeat(1, 1)", relief.repeat(1, 1), 5);
        checks.due("made behind repeat", Reliefs.made(relief, 3, 2), made);
        checks.due("merge(2, 0): the kept ones are as they were", relief.merge(2, 0), 2);
        checks.due("wanted behind it", Reliefs.wanted(relief, 3, 2, 0), "5 6 0 / 6 6 6");
    }

    /** "another rule" */
    private static void mergeRulesAre0To3() {
        worked.number("merge(rule, 0)", 0, 3, Bounds.BAD_NUMBER, (relief, rule) -> relief.merge(rule, 0));
        worked.number("merge(rule, 1000)", 0, 3, Bounds.BAD_NUMBER, (relief, rule) -> relief.merge(rule, 1000));
    }

    /** "or v is not 0 .. 1000", for each rule */
    private static void mergeNumbersAre0To1000() {
        for (int rule = 0; rule <= 3; rule++) {
            int r = rule;
            worked.number("merge(" + r + ", v)", 0, 1000, Bounds.BAD_NUMBER, (relief, v) -> relief.merge(r, v));
        }
        worked.refused("merge(4, 1001)", Bounds.BAD_NUMBER, relief -> relief.merge(4, 1001));
    }

    /** "IllegalStateException: none were kept (rule not 0)" */
    private static void mergeOnlyWhereSomeWereKept() {
        for (int rule = 1; rule <= 3; rule++) {
            for (int v : new int[] {0, 1, 999, 1000}) {
                int r = rule;
                String name = "merge(" + r + ", " + v + ") where none were kept";
                fresh.refused(name, Bounds.BAD_STATE, relief -> relief.merge(r, v));
                roughed.refused(name, Bounds.BAD_STATE, relief -> relief.merge(r, v));
                worked.answers("merge(" + r + ", " + v + ") where some were kept", relief -> relief.merge(r, v));
            }
        }
        fresh.due("merge(0, 0) where none were kept", 0, relief -> relief.merge(0, 0));
        roughed.due("merge(0, 1000) where none were kept", 0, relief -> relief.merge(0, 1000));
    }

    /** "of several exceptions the one named first is thrown" */
    private static void mergeNamesTheNumberFirst() {
        for (int rule : new int[] {Integer.MIN_VALUE, -1, 4, Integer.MAX_VALUE}) {
            fresh.refused("merge(" + rule + ", 0) where none were kept", Bounds.BAD_NUMBER,
                relief -> relief.merge(rule, 0));
        }
        for (int rule = 0; rule <= 3; rule++) {
            for (int v : new int[] {Integer.MIN_VALUE, -1, 1001, Integer.MAX_VALUE}) {
                int r = rule;
                fresh.refused("merge(" + r + ", " + v + ") where none were kept", Bounds.BAD_NUMBER,
                    relief -> relief.merge(r, v));
            }
        }
    }

    /** "A call that throws changes nothing": nothing is kept by it, and what was kept stays. */
    private static void refusedMergeKeepsNothing() {
        ReliefPasses relief = Reliefs.of(Reliefs.row(3, 8));
        checks.dueBadNumber("merge(0, 1001)", () -> relief.merge(0, 1001));
        checks.dueBadNumber("merge(0, -1)", () -> relief.merge(0, -1));
        checks.dueBadState("merge(1, 0) behind it", () -> relief.merge(1, 0));
        relief.merge(0, 0);
        relief.put(0, 0, 900);
        checks.dueBadNumber("merge(0, 1001) behind what was kept", () -> relief.merge(0, 1001));
        checks.due("merge(2, 0)", relief.merge(2, 0), 1);
        checks.due("what was kept first", Reliefs.wanted(relief, 2, 1, 0), "3 8");
    }

    /** "none were kept": heights that are all 0 were kept all the same */
    private static void heightsOf0AreKeptToo() {
        ReliefPasses relief = new ReliefPasses(2, 1);
        checks.due("merge(0, 0) of nothing but 0", relief.merge(0, 0), 0);
        checks.due("merge(1, 0) with nothing but 0", relief.merge(1, 0), 0);
        relief.put(0, 0, 1);
        relief.put(1, 0, 1000);
        checks.due("merge(2, 0) with nothing but 0", relief.merge(2, 0), 2);
        checks.due("the lesser", Reliefs.wanted(relief, 2, 1, 0), "0 0");
    }

    /** "WANTED heights are kept (rule 0)": those of the latest call */
    private static void mergeKeepsWithoutChange() {
        ReliefPasses relief = Reliefs.of(Reliefs.row(0, 1000, 5));
        for (int v : new int[] {0, 1, 999, 1000}) {
            checks.due("merge(0, " + v + ")", relief.merge(0, v), 0);
            checks.due("wanted behind it", Reliefs.wanted(relief, 3, 1, 0), "0 1000 5");
        }
        relief.put(2, 0, 6);
        relief.merge(0, 0);
        relief.put(2, 0, 4);
        checks.due("merge(1, 0)", relief.merge(1, 0), 1);
        checks.due("the latest that were kept", Reliefs.wanted(relief, 3, 1, 0), "0 1000 6");
    }

    /** "how many are other ones": none, some, all */
    private static void mergeOfTheSameIsNoOther() {
        ReliefPasses relief = Reliefs.of(Reliefs.row(0, 7, 1000));
        relief.merge(0, 0);
        checks.due("merge(1, 0) with themselves", relief.merge(1, 0), 0);
        checks.due("merge(2, 0) with themselves", relief.merge(2, 0), 0);
        relief.put(0, 0, 1);
        relief.put(1, 0, 6);
        relief.put(2, 0, 999);
        checks.due("merge(1, 0), one less at two places", relief.merge(1, 0), 2);
        checks.due("the greater", Reliefs.wanted(relief, 3, 1, 0), "1 7 1000");
        checks.due("merge(2, 0), one more at one place", relief.merge(2, 0), 1);
        checks.due("the lesser", Reliefs.wanted(relief, 3, 1, 0), "0 7 1000");
        checks.due("merge(3, 1000) changes all but 0 and 1000", relief.merge(3, 1000), 1);
        relief.put(0, 0, 500);
        relief.put(1, 0, 500);
        checks.due("merge(3, 999)", relief.merge(3, 999), 3 - 1);
        checks.due("their sum less 999", Reliefs.wanted(relief, 3, 1, 0), "0 0 1000");
    }

    private static int added(int wanted, int kept, int v) {
        ReliefPasses relief = new ReliefPasses(1, 1);
        relief.put(0, 0, kept);
        relief.merge(0, 0);
        relief.put(0, 0, wanted);
        int others = relief.merge(3, v);
        int now = relief.lift(0, 0, 0);
        checks.due("merge(3, " + v + ") of " + wanted + " and " + kept, others, now == wanted ? 0 : 1);
        return now;
    }

    /** "their sum less v, at least 0" */
    private static void sumIsAtLeast0() {
        checks.due("3 and 4 less 6", added(3, 4, 6), 1);
        checks.due("3 and 4 less 7", added(3, 4, 7), 0);
        checks.due("3 and 4 less 8", added(3, 4, 8), 0);
        checks.due("0 and 0 less 0", added(0, 0, 0), 0);
        checks.due("0 and 0 less 1", added(0, 0, 1), 0);
        checks.due("0 and 0 less 1000", added(0, 0, 1000), 0);
        checks.due("500 and 500 less 1000", added(500, 500, 1000), 0);
        checks.due("500 and 501 less 1000", added(500, 501, 1000), 1);
    }

    /** "and at most 1000" */
    private static void sumIsAtMost1000() {
        checks.due("500 and 499 less 0", added(500, 499, 0), 999);
        checks.due("500 and 500 less 0", added(500, 500, 0), 1000);
        checks.due("500 and 501 less 0", added(500, 501, 0), 1000);
        checks.due("600 and 500 less 100", added(600, 500, 100), 1000);
        checks.due("600 and 500 less 101", added(600, 500, 101), 999);
        checks.due("1000 and 1000 less 0", added(1000, 1000, 0), 1000);
        checks.due("1000 and 1000 less 999", added(1000, 1000, 999), 1000);
        checks.due("1000 and 1000 less 1000", added(1000, 1000, 1000), 1000);
        checks.due("999 and 1000 less 1000", added(999, 1000, 1000), 999);
    }

    private static void sumAtAllBounds() {
        int[] heights = {0, 1, 2, 499, 500, 501, 998, 999, 1000};
        for (int wanted : heights) {
            for (int kept : heights) {
                for (int v : heights) {
                    int sum = wanted + kept - v;
                    int due = sum < 0 ? 0 : sum > 1000 ? 1000 : sum;
                    checks.due(wanted + " and " + kept + " less " + v, added(wanted, kept, v), due);
                }
            }
        }
    }

    private static void mergeChangesOnlyWanted() {
        for (int rule = 0; rule <= 3; rule++) {
            ReliefPasses relief = Samples.worked();
            String made = Reliefs.made(relief, 3, 2);
            relief.merge(rule, 3);
            checks.due("made behind merge(" + rule + ", 3)", Reliefs.made(relief, 3, 2), made);
        }
        ReliefPasses relief = Reliefs.of(Reliefs.row(3, 8));
        relief.merge(0, 0);
        relief.put(0, 0, 10);
        relief.merge(3, 1);
        checks.due("wanted behind merge(3, 1)", Reliefs.wanted(relief, 2, 1, 0), "12 15");
        relief.merge(2, 0);
        checks.due("the kept ones are as they were", Reliefs.wanted(relief, 2, 1, 0), "3 8");
    }

    /** Only stock looks at it: merge and repeat name no such IllegalStateException. */
    private static void mergeMayBeAboveTheStock() {
        ReliefPasses relief = Reliefs.of(Reliefs.row(5, 0));
        relief.stock(5);
        relief.merge(0, 0);
        checks.due("merge(3, 0) above the stock", relief.merge(3, 0), 1);
        checks.due("repeat(1, 1) above the stock", relief.repeat(1, 1), 1);
        checks.due("wanted above the stock", Reliefs.wanted(relief, 2, 1, 0), "10 10");
        checks.due("below() then", relief.below(), true);
        checks.dueBadState("stock(9) then", () -> relief.stock(9));
    }
}
