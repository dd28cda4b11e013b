import java.util.function.Supplier;
import java.util.function.ToLongFunction;

/** Calls at and around their bounds, each on a relief of its own, and that nothing has changed behind a refused one. */
final class Bounds {
    interface CallWith {
        long answer(ReliefPasses relief, int number);
    }

    static final String NO_PLACE = "throws.IndexOutOfBoundsException";
    static final String BAD_NUMBER = "throws.IllegalArgumentException";
    static final String BAD_STATE = "throws.IllegalStateException";

    private final Checks checks;
    private final Supplier<ReliefPasses> maker;
    private final int width;
    private final int height;
    private final String untouched;

    Bounds(Checks checks, int width, int height, Supplier<ReliefPasses> maker) {
        this.checks = checks;
        this.width = width;
        this.height = height;
        this.maker = maker;
        untouched = Seen.of(maker.get(), width, height);
    }

    static Bounds ofFresh(Checks checks) {
        return new Bounds(checks, Samples.WIDTH, Samples.HEIGHT, Samples::fresh);
    }

    static Bounds ofWorked(Checks checks) {
        return new Bounds(checks, Samples.WIDTH, Samples.HEIGHT, Samples::worked);
    }

    static Bounds ofRoughed(Checks checks) {
        return new Bounds(checks, Samples.WIDTH, Samples.HEIGHT, Samples::roughed);
    }

    /** Just inside, at, and just beyond each bound, and the least and the greatest int. */
    static int[] around(int least, int most) {
        int below = least == Integer.MIN_VALUE ? least : least - 1;
        int above = most == Integer.MAX_VALUE ? most : most + 1;
        return new int[] {
            Integer.MIN_VALUE, Integer.MIN_VALUE + 1, below, least, least + 1, most - 1, most, above,
            Integer.MAX_VALUE - 1, Integer.MAX_VALUE
        };
    }

    static boolean in(int number, int least, int most) {
        return number >= least && number <= most;
    }

    /** One number of a call, the others being right: answered in its bounds, refused beyond them. */
    void number(String name, int least, int most, String refusal, CallWith call) {
        for (int number : around(least, most)) {
            String here = name + " with " + number;
            if (in(number, least, most)) {
                answers(here, relief -> call.answer(relief, number));
            } else {
                refused(here, refusal, relief -> call.answer(relief, number));
            }
        }
    }

    void refused(String name, String refusal, ToLongFunction<ReliefPasses> call) {
        ReliefPasses relief = maker.get();
        checks.due(name, Checks.outcome(() -> call.applyAsLong(relief)), refusal);
        checks.due("all that is seen behind " + name, Seen.of(relief, width, height), untouched);
    }

    void answers(String name, ToLongFunction<ReliefPasses> call) {
        ReliefPasses relief = maker.get();
        String outcome = Checks.outcome(() -> call.applyAsLong(relief));
        checks.due(name + " " + outcome + ", is answered", !outcome.startsWith("throws."), true);
    }

    void due(String name, long answer, ToLongFunction<ReliefPasses> call) {
        ReliefPasses relief = maker.get();
        checks.due(name, Checks.outcome(() -> call.applyAsLong(relief)), Long.toString(answer));
    }
}
