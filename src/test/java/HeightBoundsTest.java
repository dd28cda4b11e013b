/** The boundary cases of promises 2 (put), 4 (stock), 9 (made), 10 (below), 11 (rest) and 12 (sum). */
final class HeightBoundsTest {
    private static final int NONE = ReliefPasses.NONE;
    private static final Checks checks = new Checks();
    private static final Bounds fresh = Bounds.ofFresh(checks);
    private static final Bounds worked = Bounds.ofWorked(checks);
    private static final Bounds roughed = Bounds.ofRoughed(checks);

    public static void main(String[] args) {
        putOnlyWhereThereIsAPlace();
        putOnlyHeightsFrom0To1000();
        putNamesThePlaceFirst();
        putTellsWhetherItIsAnotherOneAtTheBounds();
        putMayBeAboveTheStock();
        stockOnlyFrom1To1000();
        stockNotBelowAWantedHeight();
        stockNamesTheNumberFirst();
        stockIsAllThatIsMade();
        madeOnlyWhereThereIsAPlace();
        placesOfTheSmallestAndTheLargestRelief();
        belowIsLessThanWanted();
        belowLooksAtEveryPlace();
        restOnlyForHeightsFrom0To1000();
        restOnlyFromNoneOn();
        restIsLeftByMoreThan();
        restIsNoneWhereThereAreNotSoMany();
        restCountsTwentyToARow();
        sumCountsNothingBelowWanted();
        sumOfTheSmallestAndTheLargestRelief();
        checks.finish();
    }

    /** "IndexOutOfBoundsException: there is no such place" */
    private static void putOnlyWhereThereIsAPlace() {
        worked.number("put(x, 1, 8)", 0, 2, Bounds.NO_PLACE, (relief, x) -> relief.put(x, 1, 8) ? 1 : 0);
        worked.number("put(2, y, 8)", 0, 1, Bounds.NO_PLACE, (relief, y) -> relief.put(2, y, 8) ? 1 : 0);
    }

    /** "v is not 0 .. 1000" */
    private static void putOnlyHeightsFrom0To1000() {
        worked.number("put(2, 1, v)", 0, 1000, Bounds.BAD_NUMBER, (relief, v) -> relief.put(2, 1, v) ? 1 : 0);
        fresh.number("put(0, 0, v)", 0, 1000, Bounds.BAD_NUMBER, (relief, v) -> relief.put(0, 0, v) ? 1 : 0);
    }

    /** "of several exceptions the one named first is thrown" */
    private static void putNamesThePlaceFirst() {
        worked.refused("put(3, 0, 1001)", Bounds.NO_PLACE, relief -> relief.put(3, 0, 1001) ? 1 : 0);
        worked.refused("put(0, 2, -1)", Bounds.NO_PLACE, relief -> relief.put(0, 2, -1) ? 1 : 0);
        worked.refused("put(min, max, max)", Bounds.NO_PLACE,
            relief -> relief.put(Integer.MIN_VALUE, Integer.MAX_VALUE, Integer.MAX_VALUE) ? 1 : 0);
    }

    /** "A WANTED height: whether it is another one" */
    private static void putTellsWhetherItIsAnotherOneAtTheBounds() {
        ReliefPasses relief = new ReliefPasses(1, 1);
        checks.due("put of 0 at first", relief.put(0, 0, 0), false);
        checks.due("put of 1 over 0", relief.put(0, 0, 1), true);
        checks.due("put of 1000 over 1", relief.put(0, 0, 1000), true);
        checks.due("put of 1000 again", relief.put(0, 0, 1000), false);
        checks.due("refused put of 1001 over 1000", Checks.outcome(() -> relief.put(0, 0, 1001) ? 1 : 0),
            Bounds.BAD_NUMBER);
        checks.due("put of 1000 behind what was refused", relief.put(0, 0, 1000), false);
        checks.due("put of 999 over 1000", relief.put(0, 0, 999), true);
        checks.due("put of 0 over 999", relief.put(0, 0, 0), true);
    }

    /** Only stock looks at it: put names no IllegalStateException. */
    private static void putMayBeAboveTheStock() {
        for (int v : new int[] {49, 50, 51, 1000}) {
            worked.due("put(0, 1, " + v + ") in a stock of 50", 1, relief -> relief.put(0, 1, v) ? 1 : 0);
        }
        ReliefPasses relief = Samples.worked();
        String before = Reliefs.made(relief, 3, 2);
        relief.put(0, 1, 1000);
        checks.due("made behind a put above the stock", Reliefs.made(relief, 3, 2), before);
    }

    /** "v is not 1 .. 1000" */
    private static void stockOnlyFrom1To1000() {
        fresh.number("stock(v)", 1, 1000, Bounds.BAD_NUMBER, (relief, v) -> relief.stock(v));
    }

    /** "IllegalStateException: a WANTED height is above it" */
    private static void stockNotBelowAWantedHeight() {
        roughed.refused("stock(1), wanted is 30", Bounds.BAD_STATE, relief -> relief.stock(1));
        roughed.refused("stock(29), wanted is 30", Bounds.BAD_STATE, relief -> relief.stock(29));
        roughed.due("stock(30), wanted is 30", 30, relief -> relief.stock(30));
        roughed.due("stock(31), wanted is 30", 30, relief -> relief.stock(31));
        worked.refused("stock(44), wanted behind the pass is 45", Bounds.BAD_STATE, relief -> relief.stock(44));
        worked.due("stock(45), wanted behind the pass is 45", 45, relief -> relief.stock(45));
        for (int place = 0; place < 6; place++) {
            ReliefPasses relief = new ReliefPasses(3, 2);
            relief.put(place % 3, place / 3, 1000);
            checks.dueBadState("stock(999), wanted is 1000 at " + place, () -> relief.stock(999));
            checks.due("stock(1000), wanted is 1000 at " + place, relief.stock(1000), 1000);
        }
        ReliefPasses low = new ReliefPasses(1, 1);
        low.put(0, 0, 1);
        checks.due("stock(1), wanted is 1", low.stock(1), 1);
        low.put(0, 0, 2);
        checks.dueBadState("stock(1), wanted is 2", () -> low.stock(1));
    }

    /** "of several exceptions the one named first is thrown" */
    private static void stockNamesTheNumberFirst() {
        roughed.refused("stock(0), wanted is 30", Bounds.BAD_NUMBER, relief -> relief.stock(0));
        roughed.refused("stock(min), wanted is 30", Bounds.BAD_NUMBER, relief -> relief.stock(Integer.MIN_VALUE));
        roughed.refused("stock(1001), wanted is 30", Bounds.BAD_NUMBER, relief -> relief.stock(1001));
        roughed.refused("stock(max), wanted is 30", Bounds.BAD_NUMBER, relief -> relief.stock(Integer.MAX_VALUE));
    }

    /** "STOCK, and all MADE heights are that" */
    private static void stockIsAllThatIsMade() {
        ReliefPasses relief = new ReliefPasses(3, 2);
        checks.due("made in the first stock", Reliefs.made(relief, 3, 2), "1000 1000 1000 / 1000 1000 1000");
        relief.fine(0, 1);
        checks.due("stock(1)", relief.stock(1), 0);
        checks.due("made in a stock of 1", Reliefs.made(relief, 3, 2), "1 1 1 / 1 1 1");
        checks.due("stock(1000)", relief.stock(1000), 0);
        checks.due("made in a stock of 1000", Reliefs.made(relief, 3, 2), "1000 1000 1000 / 1000 1000 1000");
        checks.due("levels in a stock of 1000", relief.rough(0, 1, 0), 999);
    }

    /** "IndexOutOfBoundsException: there is no such place" */
    private static void madeOnlyWhereThereIsAPlace() {
        worked.number("made(x, 1)", 0, 2, Bounds.NO_PLACE, (relief, x) -> relief.made(x, 1));
        worked.number("made(2, y)", 0, 1, Bounds.NO_PLACE, (relief, y) -> relief.made(2, y));
        worked.refused("made(3, -1)", Bounds.NO_PLACE, relief -> relief.made(3, -1));
        worked.refused("made(-1, 1): no place of the row before", Bounds.NO_PLACE, relief -> relief.made(-1, 1));
        worked.refused("made(3, 0): no place of the row behind", Bounds.NO_PLACE, relief -> relief.made(3, 0));
    }

    /** "A RELIEF has WIDTH by HEIGHT places", where these are 1 and 20. */
    private static void placesOfTheSmallestAndTheLargestRelief() {
        for (int width : new int[] {1, 20}) {
            for (int height : new int[] {1, 20}) {
                String name = " of " + width + " by " + height;
                for (int x : Bounds.around(0, width - 1)) {
                    for (int y : Bounds.around(0, height - 1)) {
                        ReliefPasses relief = new ReliefPasses(width, height);
                        boolean isPlace = Bounds.in(x, 0, width - 1) && Bounds.in(y, 0, height - 1);
                        String where = "(" + x + ", " + y + ")" + name;
                        checks.due("made" + where, Checks.outcome(() -> relief.made(x, y)),
                            isPlace ? "1000" : Bounds.NO_PLACE);
                        checks.due("put" + where, Checks.outcome(() -> relief.put(x, y, 9) ? 1 : 0),
                            isPlace ? "1" : Bounds.NO_PLACE);
                        checks.due("lift" + where, Checks.outcome(() -> relief.lift(x, y, 0)),
                            isPlace ? "9" : Bounds.NO_PLACE);
                        checks.due("sum" + where, relief.sum(), 1000L * width * height - (isPlace ? 9 : 0));
                    }
                }
            }
        }
    }

    /** "Whether some MADE height is below the WANTED one" */
    private static void belowIsLessThanWanted() {
        ReliefPasses relief = new ReliefPasses(1, 1);
        relief.stock(7);
        int[] wanted = {0, 6, 7, 8, 1000};
        for (int v : wanted) {
            relief.put(0, 0, v);
            checks.due("below() where 7 is made and " + v + " wanted", relief.below(), v > 7);
        }
        ReliefPasses ground = new ReliefPasses(1, 1);
        ground.fine(0, 1);
        checks.due("below() where 0 is made and wanted", ground.below(), false);
        ground.put(0, 0, 1);
        checks.due("below() where 0 is made and 1 wanted", ground.below(), true);
        ReliefPasses top = new ReliefPasses(1, 1);
        top.put(0, 0, 1000);
        checks.due("below() where 1000 is made and wanted", top.below(), false);
    }

    private static void belowLooksAtEveryPlace() {
        for (int place = 0; place < 6; place++) {
            ReliefPasses relief = new ReliefPasses(3, 2);
            relief.stock(5);
            relief.put(place % 3, place / 3, 6);
            checks.due("below() where only " + place + " is", relief.below(), true);
            relief.put(place % 3, place / 3, 5);
            checks.due("below() where " + place + " is not any more", relief.below(), false);
        }
        ReliefPasses largest = new ReliefPasses(20, 20);
        largest.stock(5);
        largest.put(19, 19, 6);
        checks.due("below() at the last place of the largest", largest.below(), true);
    }

    /** "v is not 0 .. 1000" */
    private static void restOnlyForHeightsFrom0To1000() {
        worked.number("rest(v, NONE)", 0, 1000, Bounds.BAD_NUMBER, (relief, v) -> relief.rest(v, NONE));
        worked.number("rest(v, 0)", 0, 1000, Bounds.BAD_NUMBER, (relief, v) -> relief.rest(v, 0));
        worked.refused("rest(1001, -2)", Bounds.BAD_NUMBER, relief -> relief.rest(1001, -2));
    }

    /** "or k below NONE" */
    private static void restOnlyFromNoneOn() {
        worked.number("rest(0, k)", NONE, Integer.MAX_VALUE, Bounds.BAD_NUMBER, (relief, k) -> relief.rest(0, k));
        worked.number("rest(1000, k)", NONE, Integer.MAX_VALUE, Bounds.BAD_NUMBER,
            (relief, k) -> relief.rest(1000, k));
    }

    /** "How many places are LEFT by more than v" */
    private static void restIsLeftByMoreThan() {
        ReliefPasses relief = new ReliefPasses(1, 1);
        int[] left = {0, 1, 2, 999, 1000};
        for (int l : left) {
            relief.put(0, 0, 1000 - l);
            for (int v : new int[] {0, 1, 2, 998, 999, 1000}) {
                checks.due("rest(" + v + ", NONE) where " + l + " is left", relief.rest(v, NONE), l > v ? 1 : 0);
                checks.due("rest(" + v + ", 0) where " + l + " is left", relief.rest(v, 0), l > v ? 0 : NONE);
            }
        }
        relief.put(0, 0, 0);
        relief.stock(1);
        relief.put(0, 0, 2);
        checks.due("rest(0, NONE) where it is below", relief.rest(0, NONE), 0);
    }

    /** "NONE if there are not so many" */
    private static void restIsNoneWhereThereAreNotSoMany() {
        fresh.due("rest(0, NONE) of all six", 6, relief -> relief.rest(0, NONE));
        fresh.due("rest(0, 0), the first of six", 0, relief -> relief.rest(0, 0));
        fresh.due("rest(0, 5), the last of six", 22, relief -> relief.rest(0, 5));
        fresh.due("rest(0, 6) of six", NONE, relief -> relief.rest(0, 6));
        fresh.due("rest(0, 7) of six", NONE, relief -> relief.rest(0, 7));
        fresh.due("rest(0, max) of six", NONE, relief -> relief.rest(0, Integer.MAX_VALUE));
        ReliefPasses empty = new ReliefPasses(3, 2);
        empty.fine(0, 1);
        checks.due("rest(0, NONE) where nothing is left", empty.rest(0, NONE), 0);
        checks.due("rest(0, 0) where nothing is left", empty.rest(0, 0), NONE);
    }

    /** "where the k-th of them, row by row, is: 20 * y + x" */
    private static void restCountsTwentyToARow() {
        ReliefPasses narrow = new ReliefPasses(1, 20);
        checks.due("rest(0, 19) of 1 by 20", narrow.rest(0, 19), 380);
        ReliefPasses flat = new ReliefPasses(20, 1);
        checks.due("rest(0, 19) of 20 by 1", flat.rest(0, 19), 19);
        ReliefPasses largest = new ReliefPasses(20, 20);
        checks.due("rest(999, NONE) of 20 by 20", largest.rest(999, NONE), 400);
        checks.due("rest(999, 399) of 20 by 20", largest.rest(999, 399), 399);
        checks.due("rest(999, 400) of 20 by 20", largest.rest(999, 400), NONE);
        largest.put(0, 0, 1000);
        largest.put(19, 0, 1000);
        checks.due("rest(0, 0) where the first is full", largest.rest(0, 0), 1);
        checks.due("rest(0, 18) where the row's last is full", largest.rest(0, 18), 20);
        checks.due("rest(0, 397), the last one", largest.rest(0, 397), 399);
        checks.due("rest(0, 398)", largest.rest(0, 398), NONE);
    }

    /** "The sum of all that is LEFT (below WANTED counts nothing)" */
    private static void sumCountsNothingBelowWanted() {
        ReliefPasses relief = new ReliefPasses(2, 1);
        relief.stock(7);
        int[] wanted = {6, 7, 8, 1000};
        int[] due = {7 + 1, 7, 7, 7};
        for (int i = 0; i < wanted.length; i++) {
            relief.put(1, 0, wanted[i]);
            checks.due("sum() where 7 is made, 0 and " + wanted[i] + " wanted", relief.sum(), due[i]);
        }
        relief.put(0, 0, 1000);
        checks.due("sum() where all is below", relief.sum(), 0);
    }

    private static void sumOfTheSmallestAndTheLargestRelief() {
        checks.due("sum() of 20 by 20", new ReliefPasses(20, 20).sum(), 400000);
        ReliefPasses smallest = new ReliefPasses(1, 1);
        checks.due("sum() of 1 by 1", smallest.sum(), 1000);
        smallest.stock(1);
        checks.due("sum() in a stock of 1", smallest.sum(), 1);
        smallest.put(0, 0, 1);
        checks.due("sum() where nothing is left", smallest.sum(), 0);
    }
}
