/** The boundary cases of promises 7 (rough) and 8 (fine). */
final class PassBoundsTest {
    private static final Checks checks = new Checks();
    private static final Bounds fresh = Bounds.ofFresh(checks);
    private static final Bounds worked = Bounds.ofWorked(checks);
    private static final Bounds roughed = Bounds.ofRoughed(checks);

    public static void main(String[] args) {
        roughOnlyByAToolThereIs();
        roughStepsAre1To1000();
        roughSkinsAre0To1000();
        roughNamesTheToolFirst();
        levelsAreAboveZero();
        levelsOfTheLeastAndTheGreatestStock();
        levelsBeginBelowTheStock();
        skinMayJustReachTheLevel();
        greatestSkinLeavesAll();
        nothingIsCarvedRoundHeightsAboveTheStock();
        levelsWithoutAPlaceDoNotCount();
        levelsGoneBeforeAreGoneOnceMore();
        carvingOnlyLowers();
        carvingCoversOnlyTheRelief();
        fineOnlyByAToolThereIs();
        fineStepsAre1To20();
        fineNamesTheToolFirst();
        lastRowIfItIsNoneOfThese();
        everyStepInEveryHeight();
        rowsGoneBeforeAreGoneOnceMore();
        fineAtTheBoundsOfHeights();
        checks.finish();
    }

    /** "IndexOutOfBoundsException: there is no such tool" */
    private static void roughOnlyByAToolThereIs() {
        worked.number("rough(t, 10, 1)", 0, 3, Bounds.NO_PLACE, (relief, t) -> relief.rough(t, 10, 1));
    }

    /** "step is not 1 .. 1000" */
    private static void roughStepsAre1To1000() {
        worked.number("rough(0, step, 0)", 1, 1000, Bounds.BAD_NUMBER, (relief, step) -> relief.rough(0, step, 0));
        fresh.number("rough(3, step, 7)", 1, 1000, Bounds.BAD_NUMBER, (relief, step) -> relief.rough(3, step, 7));
    }

    /** "or skin not 0 .. 1000" */
    private static void roughSkinsAre0To1000() {
        worked.number("rough(0, 10, skin)", 0, 1000, Bounds.BAD_NUMBER, (relief, skin) -> relief.rough(0, 10, skin));
        roughed.number("rough(0, 1, skin)", 0, 1000, Bounds.BAD_NUMBER, (relief, skin) -> relief.rough(0, 1, skin));
    }

    /** "of several exceptions the one named first is thrown" */
    private static void roughNamesTheToolFirst() {
        roughed.refused("rough(4, 0, -1)", Bounds.NO_PLACE, relief -> relief.rough(4, 0, -1));
        roughed.refused("rough(-1, 1001, 0)", Bounds.NO_PLACE, relief -> relief.rough(-1, 1001, 0));
        roughed.refused("rough(min, 1, 1001)", Bounds.NO_PLACE, relief -> relief.rough(Integer.MIN_VALUE, 1, 1001));
        roughed.refused("rough(3, 0, 1001)", Bounds.BAD_NUMBER, relief -> relief.rough(3, 0, 1001));
    }

    /** "levels z = STOCK - step, STOCK - 2 * step, .. as long as they are above 0" */
    private static void levelsAreAboveZero() {
        int[][] due = {
            {10, 1, 9, 1}, {10, 2, 4, 2}, {10, 3, 3, 1}, {10, 4, 2, 2}, {10, 5, 1, 5}, {10, 6, 1, 4}, {10, 8, 1, 2},
            {10, 9, 1, 1}, {10, 10, 0, 10}, {10, 11, 0, 10}, {10, 1000, 0, 10}, {11, 5, 2, 1}, {9, 3, 2, 3}
        };
        for (int[] d : due) {
            ReliefPasses relief = new ReliefPasses(2, 1);
            relief.stock(d[0]);
            String name = "rough(0, " + d[1] + ", 0) in a stock of " + d[0];
            checks.due(name, relief.rough(0, d[1], 0), d[2]);
            checks.due("moves of " + name, relief.moves(), 2 * d[2]);
            checks.due("made by " + name, Reliefs.made(relief, 2, 1), d[3] + " " + d[3]);
        }
    }

    /** "as long as they are above 0", in a STOCK of 1, 2 and 1000 */
    private static void levelsOfTheLeastAndTheGreatestStock() {
        int[][] due = {
            {1, 1, 0}, {1, 1000, 0}, {2, 1, 1}, {2, 2, 0}, {1000, 1, 999}, {1000, 499, 2}, {1000, 500, 1},
            {1000, 501, 1}, {1000, 998, 1}, {1000, 999, 1}, {1000, 1000, 0}
        };
        for (int[] d : due) {
            ReliefPasses relief = new ReliefPasses(1, 1);
            relief.stock(d[0]);
            checks.due("rough(0, " + d[1] + ", 0) in a stock of " + d[0], relief.rough(0, d[1], 0), d[2]);
            checks.due("its moves", relief.moves(), d[2]);
            checks.due("made by it", relief.made(0, 0), d[0] - d[1] * d[2]);
        }
    }

    /** "z = STOCK - step": of the latest STOCK, and none at the STOCK itself */
    private static void levelsBeginBelowTheStock() {
        ReliefPasses relief = new ReliefPasses(1, 1);
        relief.rough(0, 1, 0);
        checks.due("the first level of the first stock", relief.move(0, 2), 999);
        checks.due("the last level of the first stock", relief.move(998, 2), 1);
        relief.stock(12);
        relief.rough(0, 5, 0);
        checks.due("moves in a stock of 12", Reliefs.moves(relief), "0,0,7 0,0,2");
        checks.dueBadNumber("stock(1001)", () -> relief.stock(1001));
        relief.rough(0, 5, 0);
        checks.due("moves behind a stock that was refused", Reliefs.moves(relief), "0,0,7 0,0,2");
    }

    /** "where its LIFT + skin is not above z" */
    private static void skinMayJustReachTheLevel() {
        int[] wanted = {0, 4, 5, 6, 9, 10};
        for (int v : wanted) {
            for (int skin = 0; skin <= 10; skin++) {
                ReliefPasses relief = new ReliefPasses(1, 1);
                relief.put(0, 0, v);
                relief.stock(10);
                boolean carved = v + skin <= 5;
                String name = "rough(0, 5, " + skin + ") over " + v;
                checks.due(name, relief.rough(0, 5, skin), carved ? 1 : 0);
                checks.due("moves of " + name, relief.moves(), carved ? 1 : 0);
                checks.due("made by " + name, relief.made(0, 0), carved ? 5 : 10);
            }
        }
    }

    /** "skin .. 0 .. 1000" at its upper end: the highest level is 999 */
    private static void greatestSkinLeavesAll() {
        ReliefPasses relief = new ReliefPasses(1, 1);
        checks.due("rough(0, 1, 1000)", relief.rough(0, 1, 1000), 0);
        checks.due("made behind a skin of 1000", relief.made(0, 0), 1000);
        checks.due("rough(0, 1, 999)", relief.rough(0, 1, 999), 1);
        checks.due("made behind a skin of 999", relief.made(0, 0), 999);
        checks.due("rough(0, 1, 998)", relief.rough(0, 1, 998), 2);
        relief.put(0, 0, 1000);
        checks.due("rough(0, 1, 1000) over 1000", relief.rough(0, 1, 1000), 0);
        checks.due("rough(0, 1, 0) over 1000", relief.rough(0, 1, 0), 0);
        relief.put(0, 0, 999);
        checks.due("rough(0, 1, 0) over 999", relief.rough(0, 1, 0), 1);
        checks.due("rough(0, 1, 1) over 999", relief.rough(0, 1, 1), 0);
    }

    private static void nothingIsCarvedRoundHeightsAboveTheStock() {
        ReliefPasses relief = new ReliefPasses(3, 1);
        relief.stock(10);
        relief.tool(1, ReliefPasses.FLAT, 1);
        relief.put(0, 0, 1000);
        checks.due("rough(1, 4, 0) beside 1000", relief.rough(1, 4, 0), 2);
        checks.due("moves beside 1000", Reliefs.moves(relief), "2,0,6 2,0,2");
        checks.due("made beside 1000", Reliefs.made(relief, 3, 1), "10 2 2");
    }

    /** "at how many levels something was CARVED" */
    private static void levelsWithoutAPlaceDoNotCount() {
        ReliefPasses relief = Reliefs.of(Reliefs.row(5, 7));
        relief.stock(10);
        checks.due("rough(0, 1, 0) down to 5", relief.rough(0, 1, 0), 5);
        checks.due("moves down to 5", Reliefs.moves(relief), "0,0,9 1,0,9 0,0,8 1,0,8 0,0,7 1,0,7 0,0,6 0,0,5");
        ReliefPasses full = Reliefs.of(Reliefs.row(10, 10));
        full.stock(10);
        checks.due("rough(0, 1, 0) where all is wanted", full.rough(0, 1, 0), 0);
        checks.due("its moves", full.moves(), 0);
        checks.due("its way", full.way(), 0);
        checks.due("made by it", Reliefs.made(full, 2, 1), "10 10");
    }

    /** "(Levels .. that were gone before are gone once more.)" */
    private static void levelsGoneBeforeAreGoneOnceMore() {
        ReliefPasses relief = Samples.roughed();
        String moves = Reliefs.moves(relief);
        String made = Reliefs.made(relief, 3, 2);
        long way = relief.way();
        for (int again = 0; again < 3; again++) {
            checks.due("rough(0, 15, 1) once more", relief.rough(0, 15, 1), 2);
            checks.due("its moves once more", Reliefs.moves(relief), moves);
            checks.due("its way once more", relief.way(), way);
            checks.due("made once more", Reliefs.made(relief, 3, 2), made);
        }
        relief.fine(0, 1);
        made = Reliefs.made(relief, 3, 2);
        checks.due("rough(0, 15, 1) over fine rows", relief.rough(0, 15, 1), 2);
        checks.due("its moves over fine rows", Reliefs.moves(relief), moves);
        checks.due("made over fine rows", Reliefs.made(relief, 3, 2), made);
    }

    /** "z + PROFILE, if that is less than it was" */
    private static void carvingOnlyLowers() {
        ReliefPasses relief = new ReliefPasses(1, 1);
        relief.stock(10);
        int[] wanted = {6, 7, 6, 5, 0, 1000};
        int[] due = {6, 6, 6, 5, 0, 0};
        for (int i = 0; i < wanted.length; i++) {
            relief.put(0, 0, wanted[i]);
            checks.due("fine(0, 1) over " + wanted[i], relief.fine(0, 1), 1);
            checks.due("made behind " + wanted[i], relief.made(0, 0), due[i]);
        }
        ReliefPasses cone = new ReliefPasses(3, 1);
        cone.stock(3);
        cone.tool(0, ReliefPasses.CONE, 2);
        cone.rough(0, 2, 0);
        checks.due("a cone whose rim is at the stock", Reliefs.made(cone, 3, 1), "1 1 1");
        ReliefPasses rim = Reliefs.of(Reliefs.row(0, 9, 9));
        rim.stock(9);
        rim.tool(0, ReliefPasses.CONE, 2);
        rim.fine(0, 1);
        checks.due("moves of the cone", Reliefs.moves(rim), "0,0,8 1,0,9 2,0,9");
        checks.due("made where the cone's rim is not lower", Reliefs.made(rim, 3, 1), "8 9 9");
    }

    /** "each place that it covers": a tool over the edge carves nothing at the other end of a row */
    private static void carvingCoversOnlyTheRelief() {
        ReliefPasses relief = Reliefs.of(Reliefs.row(9, 9, 0), Reliefs.row(9, 9, 9), Reliefs.row(9, 9, 9));
        relief.stock(9);
        relief.put(0, 1, 0);
        checks.due("rough(0, 4, 0)", relief.rough(0, 4, 0), 2);
        checks.due("made at one end alone", Reliefs.made(relief, 3, 3), "9 9 1 / 1 9 9 / 9 9 9");
        ReliefPasses wide = new ReliefPasses(20, 20);
        wide.stock(9);
        wide.tool(0, ReliefPasses.FLAT, 5);
        wide.fine(0, 20);
        checks.due("rows of fine(0, 20) in 20 rows", wide.moves(), 40);
        checks.due("made five below the first row", wide.made(19, 5), 0);
        checks.due("made six below the first row", wide.made(19, 6), 9);
        checks.due("made six above the last row", wide.made(0, 13), 9);
        checks.due("made five above the last row", wide.made(0, 14), 0);
    }

    /** "IndexOutOfBoundsException: there is no such tool" */
    private static void fineOnlyByAToolThereIs() {
        worked.number("fine(t, 1)", 0, 3, Bounds.NO_PLACE, (relief, t) -> relief.fine(t, 1));
    }

    /** "step is not 1 .. 20" */
    private static void fineStepsAre1To20() {
        worked.number("fine(0, step)", 1, 20, Bounds.BAD_NUMBER, (relief, step) -> relief.fine(0, step));
        roughed.number("fine(3, step)", 1, 20, Bounds.BAD_NUMBER, (relief, step) -> relief.fine(3, step));
    }

    /** "of several exceptions the one named first is thrown" */
    private static void fineNamesTheToolFirst() {
        roughed.refused("fine(4, 0)", Bounds.NO_PLACE, relief -> relief.fine(4, 0));
        roughed.refused("fine(-1, 21)", Bounds.NO_PLACE, relief -> relief.fine(-1, 21));
        roughed.refused("fine(min, min)", Bounds.NO_PLACE, relief -> relief.fine(Integer.MIN_VALUE, Integer.MIN_VALUE));
        roughed.refused("fine(3, 21)", Bounds.BAD_NUMBER, relief -> relief.fine(3, 21));
    }

    /** "and the last row, if it is none of these" */
    private static void lastRowIfItIsNoneOfThese() {
        String[] due = {
            "0,0,0 1,0,0 1,1,0 0,1,0 0,2,0 1,2,0 1,3,0 0,3,0",
            "0,0,0 1,0,0 1,2,0 0,2,0 0,3,0 1,3,0",
            "0,0,0 1,0,0 1,3,0 0,3,0",
            "0,0,0 1,0,0 1,3,0 0,3,0",
            "0,0,0 1,0,0 1,3,0 0,3,0"
        };
        for (int step = 1; step <= due.length; step++) {
            ReliefPasses relief = new ReliefPasses(2, 4);
            relief.fine(0, step);
            checks.due("moves of fine(0, " + step + ") in 4 rows", Reliefs.moves(relief), due[step - 1]);
        }
        for (int step : new int[] {1, 2, 20}) {
            ReliefPasses one = new ReliefPasses(3, 1);
            checks.due("fine(0, " + step + ") in one row", one.fine(0, step), 1);
            checks.due("its moves", Reliefs.moves(one), "0,0,0 1,0,0 2,0,0");
            ReliefPasses two = new ReliefPasses(1, 2);
            checks.due("fine(0, " + step + ") in two rows", two.fine(0, step), 2);
            checks.due("its moves", Reliefs.moves(two), "0,0,0 0,1,0");
        }
    }

    /** "rows y = 0, step, 2 * step, .. and the last row", to and fro, for every STEP and HEIGHT there is */
    private static void everyStepInEveryHeight() {
        for (int height = 1; height <= 20; height++) {
            for (int step = 1; step <= 20; step++) {
                StringBuilder due = new StringBuilder();
                int rows = 0;
                for (int y = 0; y < height; y++) {
                    if (y % step == 0 || y == height - 1) {
                        due.append(rows == 0 ? "" : " ");
                        due.append(rows % 2 == 0 ? "0," + y + ",0 1," + y + ",0" : "1," + y + ",0 0," + y + ",0");
                        rows++;
                    }
                }
                ReliefPasses relief = new ReliefPasses(2, height);
                String name = "fine(0, " + step + ") in " + height + " rows";
                checks.due(name, relief.fine(0, step), rows);
                checks.due("moves of " + name, Reliefs.moves(relief), due.toString());
            }
        }
    }

    /** "(.. rows that were gone before are gone once more.)" */
    private static void rowsGoneBeforeAreGoneOnceMore() {
        ReliefPasses relief = Samples.worked();
        relief.fine(3, 1);
        String moves = Reliefs.moves(relief);
        String made = Reliefs.made(relief, 3, 2);
        long way = relief.way();
        for (int again = 0; again < 3; again++) {
            checks.due("fine(3, 1) once more", relief.fine(3, 1), 2);
            checks.due("its moves once more", Reliefs.moves(relief), moves);
            checks.due("its way once more", relief.way(), way);
            checks.due("made once more", Reliefs.made(relief, 3, 2), made);
        }
    }

    /** "CARVED at its LIFT", where that is 0, the STOCK, or above it */
    private static void fineAtTheBoundsOfHeights() {
        ReliefPasses relief = Reliefs.of(Reliefs.row(0, 1000, 999, 1));
        checks.due("fine(0, 1)", relief.fine(0, 1), 1);
        checks.due("its moves", Reliefs.moves(relief), "0,0,0 1,0,1000 2,0,999 3,0,1");
        checks.due("made by it", Reliefs.made(relief, 4, 1), "0 1000 999 1");
        checks.due("its way", relief.way(), 1001 + 2 + 999);
        ReliefPasses low = new ReliefPasses(2, 1);
        low.stock(1);
        low.put(1, 0, 1000);
        checks.due("fine(0, 1) above the stock", low.fine(0, 1), 1);
        checks.due("its moves above the stock", Reliefs.moves(low), "0,0,0 1,0,1000");
        checks.due("made below what is wanted", Reliefs.made(low, 2, 1), "0 1");
        checks.due("below() there", low.below(), true);
    }
}
