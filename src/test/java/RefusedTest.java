import java.util.Arrays;
import java.util.function.Predicate;

/**
 * "A call that throws changes nothing; of several exceptions the one named first is thrown": every call, with all
 * its numbers at and around their bounds at once, in several states.
 */
final class RefusedTest {
    private static final int ANY_LEAST = Integer.MIN_VALUE;
    private static final int ANY_MOST = Integer.MAX_VALUE;
    private static final Checks checks = new Checks();

    interface CallOf {
        long answer(ReliefPasses relief, int[] n);
    }

    /** The bounds of one number of a call; beyond them there is no such place, tool, move, or it is not as said. */
    record Numbered(int least, int most, boolean isPlace) {
    }

    private final Bounds bounds;
    private final int moves;
    private final int greatestWanted;
    private final boolean hasKept;

    private RefusedTest(Bounds bounds, int moves, int greatestWanted, boolean hasKept) {
        this.bounds = bounds;
        this.moves = moves;
        this.greatestWanted = greatestWanted;
        this.hasKept = hasKept;
    }

    public static void main(String[] args) {
        new RefusedTest(Bounds.ofFresh(checks), 0, 0, false).tryAll();
        new RefusedTest(Bounds.ofWorked(checks), 6, 45, true).tryAll();
        new RefusedTest(Bounds.ofRoughed(checks), 10, 30, false).tryAll();
        samplesAreAsSaid();
        checks.finish();
    }

    private static void samplesAreAsSaid() {
        checks.due("moves of the worked one", Samples.worked().moves(), 6);
        checks.due("the worked one is below", Samples.worked().below(), true);
        checks.due("moves of the one gone roughly", Samples.roughed().moves(), 10);
    }

    private static Numbered place(int most) {
        return new Numbered(0, most, true);
    }

    private static Numbered number(int least, int most) {
        return new Numbered(least, most, false);
    }

    private void tryAll() {
        Numbered x = place(Samples.WIDTH - 1);
        Numbered y = place(Samples.HEIGHT - 1);
        Numbered tool = place(3);
        Numbered height = number(0, 1000);
        Numbered any = number(ANY_LEAST, ANY_MOST);
        Numbered side = number(1, 20);
        tryCall("put", (r, n) -> r.put(n[0], n[1], n[2]) ? 1 : 0, n -> false, x, y, height);
        tryCall("tool", (r, n) -> r.tool(n[0], n[1], n[2]) ? 1 : 0, n -> false, tool, number(0, 2), number(0, 5));
        tryCall("stock", (r, n) -> r.stock(n[0]), n -> greatestWanted > n[0], number(1, 1000));
        tryCall("lift", (r, n) -> r.lift(n[0], n[1], n[2]), n -> false, x, y, tool);
        tryCall("profile", (r, n) -> r.profile(n[0], n[1], n[2]), n -> false, tool, any, any);
        tryCall("rough", (r, n) -> r.rough(n[0], n[1], n[2]), n -> false, tool, number(1, 1000), height);
        tryCall("fine", (r, n) -> r.fine(n[0], n[1]), n -> false, tool, side);
        tryCall("made", (r, n) -> r.made(n[0], n[1]), n -> false, x, y);
        tryCall("rest", (r, n) -> r.rest(n[0], n[1]), n -> false, height, number(-1, ANY_MOST));
        tryCall("move", (r, n) -> r.move(n[0], n[1]), n -> false, place(moves - 1), number(0, 2));
        tryCall("repeat", (r, n) -> r.repeat(n[0], n[1]), n -> false, side, side);
        tryCall("merge", (r, n) -> r.merge(n[0], n[1]), n -> n[0] != 0 && !hasKept, number(0, 3), height);
    }

    private void tryCall(String name, CallOf call, Predicate<int[]> badState, Numbered... numbers) {
        tryFrom(0, new int[numbers.length], name, call, badState, numbers);
    }

    private void tryFrom(int at, int[] n, String name, CallOf call, Predicate<int[]> badState, Numbered[] numbers) {
        if (at == numbers.length) {
            tryOne(n, name, call, badState, numbers);
            return;
        }
        for (int number : Bounds.around(numbers[at].least(), numbers[at].most())) {
            n[at] = number;
            tryFrom(at + 1, n, name, call, badState, numbers);
        }
    }

    private void tryOne(int[] n, String name, CallOf call, Predicate<int[]> badState, Numbered[] numbers) {
        String here = name + Arrays.toString(n);
        if (isBeyond(n, numbers, true)) {
            bounds.refused(here, Bounds.NO_PLACE, relief -> call.answer(relief, n));
        } else if (isBeyond(n, numbers, false)) {
            bounds.refused(here, Bounds.BAD_NUMBER, relief -> call.answer(relief, n));
        } else if (badState.test(n)) {
            bounds.refused(here, Bounds.BAD_STATE, relief -> call.answer(relief, n));
        } else {
            bounds.answers(here, relief -> call.answer(relief, n));
        }
    }

    private static boolean isBeyond(int[] n, Numbered[] numbers, boolean isPlace) {
        for (int i = 0; i < n.length; i++) {
            if (numbers[i].isPlace() == isPlace && !Bounds.in(n[i], numbers[i].least(), numbers[i].most())) {
                return true;
            }
        }
        return false;
    }
}
