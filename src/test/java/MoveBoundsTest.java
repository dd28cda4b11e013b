/** The boundary cases of promises 13 (moves), 14 (move) and 15 (way). */
final class MoveBoundsTest {
    private static final Checks checks = new Checks();
    private static final Bounds fresh = Bounds.ofFresh(checks);
    private static final Bounds worked = Bounds.ofWorked(checks);
    private static final Bounds roughed = Bounds.ofRoughed(checks);

    public static void main(String[] args) {
        noMoveBeforeTheFirstPass();
        moveOnlyWhereThereIsOne();
        moveIsOnlyXOrYOrZ();
        moveIsNamedFirst();
        oneLessThanAreKept();
        justAsManyAsAreKept();
        oneMoreThanAreKept();
        theMostMovesThereCanBe();
        movesNotKeptAreNamedFirst();
        movesOfAPassWithoutAny();
        movesAreOfTheLatestPassAlone();
        refusedPassesLeaveTheMoves();
        otherCallsLeaveTheMoves();
        wayOfNoneOneAndTwoMoves();
        wayGoesOnBehindTheKeptOnes();
        partsOfAMoveAtTheirBounds();
        checks.finish();
    }

    private static void noMoveBeforeTheFirstPass() {
        fresh.due("moves() at first", 0, relief -> relief.moves());
        fresh.due("way() at first", 0, relief -> relief.way());
        for (int k : new int[] {Integer.MIN_VALUE, -1, 0, 1, 1999, 2000, Integer.MAX_VALUE}) {
            for (int what : new int[] {-1, 0, 1, 2, 3}) {
                fresh.refused("move(" + k + ", " + what + ") at first", Bounds.NO_PLACE,
                    relief -> relief.move(k, what));
            }
        }
    }

    /** "IndexOutOfBoundsException: no such move" */
    private static void moveOnlyWhereThereIsOne() {
        for (int what = 0; what < 3; what++) {
            int w = what;
            worked.number("move(k, " + w + ") of 6", 0, 5, Bounds.NO_PLACE, (relief, k) -> relief.move(k, w));
            roughed.number("move(k, " + w + ") of 10", 0, 9, Bounds.NO_PLACE, (relief, k) -> relief.move(k, w));
        }
        ReliefPasses one = new ReliefPasses(1, 1);
        one.fine(0, 1);
        checks.due("the only move", Reliefs.moves(one), "0,0,0");
        checks.dueNoPlace("a move behind the only one", () -> one.move(1, 0));
        checks.dueNoPlace("a move before the only one", () -> one.move(-1, 0));
    }

    /** "x (what = 0), y (1), z (2)", "IllegalArgumentException: another what" */
    private static void moveIsOnlyXOrYOrZ() {
        worked.number("move(0, what)", 0, 2, Bounds.BAD_NUMBER, (relief, what) -> relief.move(0, what));
        worked.number("move(5, what)", 0, 2, Bounds.BAD_NUMBER, (relief, what) -> relief.move(5, what));
    }

    /** "of several exceptions the one named first is thrown" */
    private static void moveIsNamedFirst() {
        worked.refused("move(6, 3) of 6", Bounds.NO_PLACE, relief -> relief.move(6, 3));
        worked.refused("move(-1, -1) of 6", Bounds.NO_PLACE, relief -> relief.move(-1, -1));
        worked.refused("move(max, min) of 6", Bounds.NO_PLACE,
            relief -> relief.move(Integer.MAX_VALUE, Integer.MIN_VALUE));
    }

    /** "at most 2000": 5 levels over 400 places, of which one is left out at the lowest */
    private static void oneLessThanAreKept() {
        ReliefPasses relief = new ReliefPasses(20, 20);
        relief.stock(6);
        relief.put(7, 3, 2);
        checks.due("levels", relief.rough(0, 1, 0), 5);
        checks.due("one less than are kept", relief.moves(), 1999);
        checks.due("the last of 1999", Reliefs.move(relief, 1998), "19,19,1");
        checks.dueNoPlace("move(1999, 0) of 1999", () -> relief.move(1999, 0));
        checks.dueNoPlace("move(2000, 0) of 1999", () -> relief.move(2000, 0));
    }

    /** "at most 2000": 5 levels over 400 places */
    private static void justAsManyAsAreKept() {
        ReliefPasses relief = new ReliefPasses(20, 20);
        relief.stock(6);
        checks.due("levels", relief.rough(0, 1, 0), 5);
        checks.due("just as many as are kept", relief.moves(), 2000);
        checks.due("the last but one of 2000", Reliefs.move(relief, 1998), "18,19,1");
        checks.due("the last of 2000", Reliefs.move(relief, 1999), "19,19,1");
        checks.dueNoPlace("move(2000, 0) of 2000", () -> relief.move(2000, 0));
        checks.dueNoPlace("move(2001, 0) of 2000", () -> relief.move(2001, 0));
    }

    /** "at most 2000 (those behind count, too)": 5 levels over 400 places, and a sixth over one of them */
    private static void oneMoreThanAreKept() {
        ReliefPasses relief = new ReliefPasses(20, 20);
        relief.put(0, 0, 2);
        relief.repeat(1, 1);
        relief.put(4, 9, 0);
        relief.stock(7);
        checks.due("levels", relief.rough(0, 1, 0), 6);
        checks.due("one more than are kept", relief.moves(), 2001);
        checks.due("the last that is kept of 2001", Reliefs.move(relief, 1999), "19,19,2");
        checks.dueNoPlace("move(2000, 0) of 2001", () -> relief.move(2000, 0));
        checks.dueNoPlace("move(2001, 0) of 2001", () -> relief.move(2001, 0));
        checks.due("the one that is not kept is carved", relief.made(4, 9), 1);
        long level = 20 * 19 + 19 * 20;
        checks.due("the way to the one that is not kept", relief.way(), 5 * level + 4 * (38 + 1) + (15 + 10 + 1));
    }

    /** Every level of the greatest STOCK over every place of the largest relief. */
    private static void theMostMovesThereCanBe() {
        ReliefPasses relief = new ReliefPasses(20, 20);
        checks.due("rough(0, 1, 0)", relief.rough(0, 1, 0), 999);
        checks.due("moves()", relief.moves(), 999 * 400);
        long level = 20 * 19 + 19 * 20;
        checks.due("way()", relief.way(), 999 * level + 998 * (38 + 1));
        checks.due("the last that is kept", Reliefs.move(relief, 1999), "19,19,995");
        for (int k : new int[] {2000, 2001, 399599, 399600, Integer.MAX_VALUE}) {
            checks.dueNoPlace("move(" + k + ", 0)", () -> relief.move(k, 0));
        }
    }

    /** "IndexOutOfBoundsException: no such move, or it was not kept", named before "another what" */
    private static void movesNotKeptAreNamedFirst() {
        ReliefPasses relief = new ReliefPasses(20, 20);
        relief.rough(0, 100, 0);
        for (int what : new int[] {Integer.MIN_VALUE, -1, 0, 2, 3, Integer.MAX_VALUE}) {
            checks.dueNoPlace("move(2000, " + what + ") of 3600", () -> relief.move(2000, what));
            checks.dueNoPlace("move(3599, " + what + ") of 3600", () -> relief.move(3599, what));
            checks.dueNoPlace("move(3600, " + what + ") of 3600", () -> relief.move(3600, what));
        }
        checks.dueBadNumber("move(1999, 3) of 3600", () -> relief.move(1999, 3));
        checks.dueBadNumber("move(1999, -1) of 3600", () -> relief.move(1999, -1));
        checks.due("moves() behind what was refused", relief.moves(), 3600);
    }

    /** "MOVES of the latest ROUGH or FINE", where it was CARVED nowhere */
    private static void movesOfAPassWithoutAny() {
        ReliefPasses relief = new ReliefPasses(3, 2);
        relief.fine(0, 1);
        checks.due("moves() of fine", relief.moves(), 6);
        checks.due("rough(0, 1000, 0)", relief.rough(0, 1000, 0), 0);
        checks.due("moves() where there was no level", relief.moves(), 0);
        checks.due("way() where there was no level", relief.way(), 0);
        checks.dueNoPlace("move(0, 0) where there was no level", () -> relief.move(0, 0));
        relief.fine(0, 1);
        checks.due("rough(0, 1, 1000)", relief.rough(0, 1, 1000), 0);
        checks.due("moves() where the skin is too thick", relief.moves(), 0);
        checks.due("way() where the skin is too thick", relief.way(), 0);
        checks.dueNoPlace("move(5, 0) where the skin is too thick", () -> relief.move(5, 0));
    }

    /** "MOVES of the latest ROUGH or FINE" */
    private static void movesAreOfTheLatestPassAlone() {
        ReliefPasses relief = new ReliefPasses(20, 20);
        relief.rough(0, 100, 0);
        checks.due("moves() of rough", relief.moves(), 3600);
        relief.fine(0, 20);
        checks.due("moves() of fine", relief.moves(), 40);
        checks.due("the first move of fine", Reliefs.move(relief, 0), "0,0,0");
        checks.due("the last move of fine", Reliefs.move(relief, 39), "0,19,0");
        checks.dueNoPlace("a move of the pass before", () -> relief.move(40, 0));
        checks.dueNoPlace("the last kept of the pass before", () -> relief.move(1999, 0));
        checks.due("way() of fine", relief.way(), 19 + 19 + 19);
        relief.rough(0, 500, 0);
        checks.due("moves() of the last rough", relief.moves(), 400);
        checks.due("its first move", Reliefs.move(relief, 0), "0,0,500");
        checks.due("its way, not from the pass before", relief.way(), 20 * 19 + 19 * 20);
    }

    private static void refusedPassesLeaveTheMoves() {
        ReliefPasses relief = Samples.roughed();
        String moves = Reliefs.moves(relief);
        long way = relief.way();
        checks.dueNoPlace("rough(4, 1, 0)", () -> relief.rough(4, 1, 0));
        checks.dueBadNumber("rough(0, 0, 0)", () -> relief.rough(0, 0, 0));
        checks.dueBadNumber("rough(0, 1, 1001)", () -> relief.rough(0, 1, 1001));
        checks.dueNoPlace("fine(-1, 1)", () -> relief.fine(-1, 1));
        checks.dueBadNumber("fine(0, 21)", () -> relief.fine(0, 21));
        checks.due("moves behind what was refused", Reliefs.moves(relief), moves);
        checks.due("way() behind what was refused", relief.way(), way);
    }

    private static void otherCallsLeaveTheMoves() {
        ReliefPasses relief = Samples.roughed();
        String moves = Reliefs.moves(relief);
        long way = relief.way();
        relief.put(0, 0, 29);
        relief.tool(0, ReliefPasses.CONE, 5);
        relief.stock(1000);
        relief.merge(0, 0);
        relief.merge(3, 5);
        relief.repeat(1, 1);
        relief.rest(0, 0);
        relief.lift(0, 0, 0);
        checks.due("moves behind other calls", Reliefs.moves(relief), moves);
        checks.due("way() behind other calls", relief.way(), way);
    }

    /** "the sum, from move to move, .. (from the first one on; each the size of the difference)" */
    private static void wayOfNoneOneAndTwoMoves() {
        ReliefPasses none = new ReliefPasses(2, 2);
        none.rough(0, 1000, 0);
        checks.due("way() of no move", none.way(), 0);
        ReliefPasses one = Reliefs.of(Reliefs.row(9, 9), Reliefs.row(9, 0));
        one.stock(9);
        one.rough(0, 5, 0);
        checks.due("the only move, far from the first place", Reliefs.moves(one), "1,1,4");
        checks.due("way() of one move", one.way(), 0);
        ReliefPasses up = Reliefs.of(Reliefs.row(0, 1000));
        up.fine(0, 1);
        checks.due("way() of two moves, upward", up.way(), 1001);
        ReliefPasses down = Reliefs.of(Reliefs.row(1000, 0));
        down.fine(0, 1);
        checks.due("way() of two moves, downward", down.way(), 1001);
        ReliefPasses back = Reliefs.of(Reliefs.row(9, 9, 0), Reliefs.row(0, 9, 9));
        back.stock(9);
        back.rough(0, 5, 0);
        checks.due("two moves, back along x and down along y", Reliefs.moves(back), "2,0,4 0,1,4");
        checks.due("way() of two moves, back", back.way(), 3);
        ReliefPasses deeper = new ReliefPasses(1, 1);
        deeper.rough(0, 400, 0);
        checks.due("way() of two levels", deeper.way(), 400);
    }

    /** "(those behind count, too)" */
    private static void wayGoesOnBehindTheKeptOnes() {
        ReliefPasses relief = new ReliefPasses(20, 20);
        relief.stock(8);
        long level = 20 * 19 + 19 * 20;
        for (int levels = 4; levels <= 7; levels++) {
            relief.stock(levels + 1);
            checks.due("levels", relief.rough(0, 1, 0), levels);
            checks.due("moves() of " + levels + " levels", relief.moves(), 400 * levels);
            checks.due("way() of " + levels + " levels", relief.way(), levels * level + (levels - 1) * (38 + 1));
        }
    }

    /** x and y 0 .. 19, z 0 .. 1000 */
    private static void partsOfAMoveAtTheirBounds() {
        ReliefPasses relief = new ReliefPasses(20, 20);
        relief.put(0, 0, 1000);
        relief.put(19, 0, 999);
        relief.put(19, 1, 1000);
        relief.put(0, 19, 1);
        relief.put(19, 19, 1000);
        checks.due("fine(0, 1)", relief.fine(0, 1), 20);
        checks.due("the first move", Reliefs.move(relief, 0), "0,0,1000");
        checks.due("the second move", Reliefs.move(relief, 1), "1,0,0");
        checks.due("the last move of the first row", Reliefs.move(relief, 19), "19,0,999");
        checks.due("the first move of the second row", Reliefs.move(relief, 20), "19,1,1000");
        checks.due("the first move of the last row", Reliefs.move(relief, 380), "19,19,1000");
        checks.due("the last move", Reliefs.move(relief, 399), "0,19,1");
    }
}
