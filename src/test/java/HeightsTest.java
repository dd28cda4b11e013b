/** Promises 2 (put), 4 (stock), 9 (made), 10 (below), 11 (rest) and 12 (sum). */
final class HeightsTest {
    private static final Checks checks = new Checks();

    public static void main(String[] args) {
        putTellsWhetherItIsAnother();
        stockSetsAllMade();
        belowSeesHeightsToldLater();
        restCountsAndFinds();
        sumCountsNothingBelow();
        checks.finish();
    }

    private static void putTellsWhetherItIsAnother() {
        ReliefPasses relief = new ReliefPasses(3, 2);
        checks.due("put of what is there", relief.put(1, 1, 0), false);
        checks.due("put of another", relief.put(1, 1, 7), true);
        checks.due("put of the same again", relief.put(1, 1, 7), false);
        checks.due("put of the greatest", relief.put(2, 0, 1000), true);
        checks.due("wanted after put", Reliefs.wanted(relief, 3, 2, 0), "0 0 1000 / 0 7 0");
        checks.due("put back", relief.put(1, 1, 0), true);
        relief.put(2, 0, 0);
        relief.stock(5);
        checks.due("put above the stock", relief.put(0, 0, 1000), true);
        checks.due("made is not moved by put", Reliefs.made(relief, 3, 2), "5 5 5 / 5 5 5");
    }

    private static void stockSetsAllMade() {
        ReliefPasses relief = Reliefs.of(Reliefs.row(4, 9), Reliefs.row(2, 0));
        checks.due("stock(9), just the greatest wanted", relief.stock(9), 9);
        checks.due("made is the stock", Reliefs.made(relief, 2, 2), "9 9 / 9 9");
        relief.fine(0, 1);
        checks.due("stock(20) after a pass", relief.stock(20), 9);
        checks.due("made is the new stock", Reliefs.made(relief, 2, 2), "20 20 / 20 20");
        checks.due("stock leaves the moves", relief.moves(), 4);
        checks.due("rough begins at the new stock", relief.rough(0, 19, 0), 1);
        checks.due("stock(1000)", relief.stock(1000), 9);
        checks.due("stock(1) of a flat relief", new ReliefPasses(2, 2).stock(1), 0);
    }

    private static void belowSeesHeightsToldLater() {
        ReliefPasses relief = Reliefs.of(Reliefs.row(5, 5), Reliefs.row(5, 5));
        relief.stock(10);
        checks.due("below() in the stock", relief.below(), false);
        relief.fine(0, 1);
        checks.due("below() where made is wanted", relief.below(), false);
        relief.put(1, 1, 6);
        checks.due("below() where one was told later", relief.below(), true);
        relief.stock(10);
        checks.due("below() in new stock", relief.below(), false);
    }

    private static void restCountsAndFinds() {
        ReliefPasses relief = Reliefs.of(Reliefs.row(10, 7, 0), Reliefs.row(9, 10, 3));
        relief.stock(10);
        checks.due("rest(0, NONE)", relief.rest(0, ReliefPasses.NONE), 4);
        checks.due("rest(0, 0)", relief.rest(0, 0), 1);
        checks.due("rest(0, 1)", relief.rest(0, 1), 2);
        checks.due("rest(0, 2)", relief.rest(0, 2), 20);
        checks.due("rest(0, 3)", relief.rest(0, 3), 22);
        checks.due("rest(0, 4)", relief.rest(0, 4), ReliefPasses.NONE);
        checks.due("rest(0, max)", relief.rest(0, Integer.MAX_VALUE), ReliefPasses.NONE);
        checks.due("rest(3, NONE): more than, not as much as", relief.rest(3, ReliefPasses.NONE), 2);
        checks.due("rest(3, 1)", relief.rest(3, 1), 22);
        checks.due("rest(10, NONE)", relief.rest(10, ReliefPasses.NONE), 0);
        checks.due("rest(1000, NONE)", relief.rest(1000, ReliefPasses.NONE), 0);
        relief.put(0, 0, 11);
        checks.due("rest where made is below", relief.rest(0, ReliefPasses.NONE), 4);
        checks.due("rest(999, NONE) of the first stock", new ReliefPasses(4, 4).rest(999, ReliefPasses.NONE), 16);
    }

    private static void sumCountsNothingBelow() {
        ReliefPasses relief = Reliefs.of(Reliefs.row(10, 7, 0), Reliefs.row(9, 10, 3));
        relief.stock(10);
        checks.due("sum()", relief.sum(), 21);
        relief.put(0, 0, 500);
        checks.due("sum() where made is below", relief.sum(), 21);
        checks.due("sum() of the largest", new ReliefPasses(20, 20).sum(), 400000);
    }
}
