import java.util.ArrayList;
import java.util.Arrays;
import java.util.List;
import java.util.Map;
import java.util.function.ToLongFunction;

/** "Nothing is promised beyond the answers and state changes described above": each call changes just what it says. */
final class ChangesTest {
    private static final Checks checks = new Checks();

    public static void main(String[] args) {
        looksChangeNothing();
        callsChangeWhatTheySay();
        callsOfWhatIsThereChangeNothing();
        looksAnswerTheSameAgain();
        checks.finish();
    }

    /** The parts of a worked relief that are other ones behind a call. */
    private static List<String> changed(ToLongFunction<ReliefPasses> call) {
        ReliefPasses relief = Samples.worked();
        call.applyAsLong(relief);
        Map<String, String> now = Seen.parts(relief, Samples.WIDTH, Samples.HEIGHT);
        List<String> changed = new ArrayList<>();
        Seen.parts(Samples.worked(), Samples.WIDTH, Samples.HEIGHT).forEach((part, before) -> {
            if (!before.equals(now.get(part))) {
                changed.add(part);
            }
        });
        return changed;
    }

    private static void changes(String name, ToLongFunction<ReliefPasses> call, String... parts) {
        checks.due("what " + name + " changes", changed(call).toString(), Arrays.toString(parts));
    }

    private static void looksChangeNothing() {
        changes("lift", relief -> relief.lift(1, 1, 3));
        changes("profile", relief -> relief.profile(3, 4, 3));
        changes("profile beside the tool", relief -> relief.profile(3, 5, 5));
        changes("made", relief -> relief.made(2, 0));
        changes("below", relief -> relief.below() ? 1 : 0);
        changes("rest, counting", relief -> relief.rest(0, ReliefPasses.NONE));
        changes("rest, finding", relief -> relief.rest(0, 1));
        changes("rest, finding none", relief -> relief.rest(0, 9));
        changes("sum", relief -> relief.sum());
        changes("moves", relief -> relief.moves());
        changes("move", relief -> relief.move(3, 2));
        changes("way", relief -> relief.way());
    }

    private static void callsChangeWhatTheySay() {
        changes("put", relief -> relief.put(2, 0, 7) ? 1 : 0, "WANTED");
        changes("put above the stock", relief -> relief.put(2, 0, 700) ? 1 : 0, "WANTED");
        changes("tool", relief -> relief.tool(2, ReliefPasses.FLAT, 4) ? 1 : 0, "TOOLS");
        changes("stock", relief -> relief.stock(60), "MADE", "STOCK");
        changes("stock of the same", relief -> relief.stock(50), "MADE");
        changes("rough", relief -> relief.rough(2, 7, 0), "MOVES", "MADE");
        changes("rough with a great skin", relief -> relief.rough(2, 7, 1000), "MOVES");
        changes("fine", relief -> relief.fine(2, 1), "MOVES", "MADE");
        changes("repeat", relief -> relief.repeat(2, 1), "WANTED");
        changes("merge by rule 0", relief -> relief.merge(0, 5), "KEPT");
        changes("merge by rule 2", relief -> relief.merge(2, 5), "WANTED");
        changes("merge by rule 3", relief -> relief.merge(3, 5), "WANTED");
    }

    private static void callsOfWhatIsThereChangeNothing() {
        changes("put of what is there", relief -> relief.put(1, 1, 45) ? 1 : 0);
        changes("tool that is there", relief -> relief.tool(3, Samples.KINDS[3], Samples.RADII[3]) ? 1 : 0);
        changes("repeat as wide and high as the relief", relief -> relief.repeat(Samples.WIDTH, Samples.HEIGHT));
        changes("repeat wider and higher than the relief", relief -> relief.repeat(20, 20));
        changes("merge by rule 1 with lesser ones", relief -> relief.merge(1, 5));
        changes("merge by rule 1 that takes back a put", relief -> {
            relief.put(2, 1, 1);
            return relief.merge(1, 5);
        });
    }

    private static String looks(ReliefPasses relief) {
        StringBuilder text = new StringBuilder();
        for (int tool = 0; tool < 4; tool++) {
            text.append(relief.lift(1, 0, tool)).append(' ').append(relief.profile(tool, 1, 0)).append(' ');
        }
        text.append(Reliefs.made(relief, Samples.WIDTH, Samples.HEIGHT)).append(' ').append(relief.below());
        text.append(' ').append(relief.rest(0, ReliefPasses.NONE)).append(' ').append(relief.rest(2, 1));
        text.append(' ').append(relief.sum()).append(' ').append(Reliefs.moves(relief));
        return text.append(' ').append(relief.way()).toString();
    }

    private static void looksAnswerTheSameAgain() {
        ReliefPasses relief = Samples.worked();
        String first = looks(relief);
        for (int again = 0; again < 5; again++) {
            checks.due("all looks once more", looks(relief), first);
        }
    }
}
