import java.util.Random;

/** All promises: long runs of calls, right and wrong ones, each answered as the document's words word by word do. */
final class PlainReliefTest {
    private static final Checks checks = new Checks();
    private static final int RUNS = 400;
    /** As many as an object is used for. */
    private static final int CALLS = 512;
    private static final String NO_PLACE = "throws.IndexOutOfBoundsException";
    private static final String BAD_NUMBER = "throws.IllegalArgumentException";
    private static final String BAD_STATE = "throws.IllegalStateException";

    private final Random random;
    private final ReliefPasses relief;
    private final PlainRelief plain;
    private final int highest;
    private String name;
    private String due;

    private PlainReliefTest(long seed) {
        random = new Random(seed);
        int width = 1 + random.nextInt(seed % 8 == 0 ? 20 : 8);
        int height = 1 + random.nextInt(seed % 8 == 0 ? 20 : 8);
        relief = new ReliefPasses(width, height);
        plain = new PlainRelief(width, height);
        highest = seed % 3 == 0 ? 1000 : 30;
    }

    public static void main(String[] args) {
        for (long seed = 0; seed < RUNS; seed++) {
            PlainReliefTest run = new PlainReliefTest(seed);
            for (int n = 0; n < CALLS; n++) {
                run.call("run " + seed + ", call " + n + ": ");
            }
        }
        checks.finish();
    }

    /** Mostly a number in the bounds, now and then one just or far beyond them. */
    private int number(int least, int most) {
        switch (random.nextInt(40)) {
            case 0:
                return least - 1;
            case 1:
                return most + 1;
            case 2:
                return random.nextInt();
            case 3:
                return least;
            case 4:
                return most;
            default:
                return least + random.nextInt(most - least + 1);
        }
    }

    private static boolean in(int number, int least, int most) {
        return number >= least && number <= most;
    }

    private boolean isPlace(int x, int y) {
        return in(x, 0, plain.width - 1) && in(y, 0, plain.height - 1);
    }

    private void call(String where) {
        Checks.Call call = choose();
        checks.due(where + name, Checks.outcome(call), due);
    }

    private Checks.Call choose() {
        int choice = random.nextInt(100);
        if (choice < 30) {
            return chooseHeight();
        }
        if (choice < 50) {
            return chooseTool();
        }
        if (choice < 62) {
            return choosePass();
        }
        if (choice < 90) {
            return chooseLook();
        }
        return choosePattern();
    }

    private Checks.Call chooseHeight() {
        int x = number(0, plain.width - 1);
        int y = number(0, plain.height - 1);
        int v = number(0, highest);
        if (random.nextInt(10) == 0) {
            name = "stock(" + v + ")";
            due = !in(v, 1, 1000) ? BAD_NUMBER : plain.greatest() > v ? BAD_STATE : "" + plain.stock(v);
            return () -> relief.stock(v);
        }
        name = "put(" + x + ", " + y + ", " + v + ")";
        due = !isPlace(x, y) ? NO_PLACE : !in(v, 0, 1000) ? BAD_NUMBER : plain.put(x, y, v) ? "1" : "0";
        return () -> relief.put(x, y, v) ? 1 : 0;
    }

    private Checks.Call chooseTool() {
        int tool = number(0, 3);
        int a = number(0, 5);
        int b = number(0, 5);
        switch (random.nextInt(3)) {
            case 0:
                int kind = number(0, 2);
                name = "tool(" + tool + ", " + kind + ", " + a + ")";
                due = !in(tool, 0, 3) ? NO_PLACE : !in(kind, 0, 2) || !in(a, 0, 5) ? BAD_NUMBER
                    : plain.tool(tool, kind, a) ? "1" : "0";
                return () -> relief.tool(tool, kind, a) ? 1 : 0;
            case 1:
                name = "profile(" + tool + ", " + a + ", " + -b + ")";
                due = !in(tool, 0, 3) ? NO_PLACE : "" + plain.profile(tool, a, -b);
                return () -> relief.profile(tool, a, -b);
            default:
                int x = number(0, plain.width - 1);
                int y = number(0, plain.height - 1);
                name = "lift(" + x + ", " + y + ", " + tool + ")";
                due = !isPlace(x, y) || !in(tool, 0, 3) ? NO_PLACE : "" + plain.lift(x, y, tool);
                return () -> relief.lift(x, y, tool);
        }
    }

    private Checks.Call choosePass() {
        int tool = number(0, 3);
        if (random.nextBoolean()) {
            int step = number(1, 20);
            name = "fine(" + tool + ", " + step + ")";
            due = !in(tool, 0, 3) ? NO_PLACE : !in(step, 1, 20) ? BAD_NUMBER : "" + plain.fine(tool, step);
            return () -> relief.fine(tool, step);
        }
        // Small steps only where the plain way of it stays quick.
        int least = plain.width * plain.height * plain.stock > 3000 ? 1 + plain.stock / 10 : 1;
        int drawn = number(1, 300);
        int step = in(drawn, 1, 1000) ? Math.max(least, drawn) : drawn;
        int skin = number(0, highest / 8);
        name = "rough(" + tool + ", " + step + ", " + skin + ")";
        due = !in(tool, 0, 3) ? NO_PLACE : !in(step, 1, 1000) || !in(skin, 0, 1000) ? BAD_NUMBER
            : "" + plain.rough(tool, step, skin);
        return () -> relief.rough(tool, step, skin);
    }

    private Checks.Call chooseLook() {
        switch (random.nextInt(7)) {
            case 0:
                name = "below()";
                due = plain.below() ? "1" : "0";
                return () -> relief.below() ? 1 : 0;
            case 1:
                name = "sum()";
                due = "" + plain.sum();
                return () -> relief.sum();
            case 2:
                name = "moves()";
                due = "" + plain.moves.size();
                return () -> relief.moves();
            case 3:
                name = "way()";
                due = "" + plain.way();
                return () -> relief.way();
            case 4:
                return chooseMove();
            case 5:
                int x = number(0, plain.width - 1);
                int y = number(0, plain.height - 1);
                name = "made(" + x + ", " + y + ")";
                due = !isPlace(x, y) ? NO_PLACE : "" + plain.made[y][x];
                return () -> relief.made(x, y);
            default:
                int v = number(0, highest);
                int k = number(-1, plain.width * plain.height / 2);
                name = "rest(" + v + ", " + k + ")";
                due = !in(v, 0, 1000) || k < -1 ? BAD_NUMBER : "" + plain.rest(v, k);
                return () -> relief.rest(v, k);
        }
    }

    private Checks.Call chooseMove() {
        int kept = Math.min(2000, plain.moves.size());
        int k = number(0, Math.max(0, kept - 1));
        int what = number(0, 2);
        name = "move(" + k + ", " + what + ")";
        due = !in(k, 0, kept - 1) ? NO_PLACE : !in(what, 0, 2) ? BAD_NUMBER : "" + plain.moves.get(k)[what];
        return () -> relief.move(k, what);
    }

    private Checks.Call choosePattern() {
        if (random.nextInt(4) == 0) {
            int dx = number(1, 20);
            int dy = number(1, 20);
            name = "repeat(" + dx + ", " + dy + ")";
            due = !in(dx, 1, 20) || !in(dy, 1, 20) ? BAD_NUMBER : "" + plain.repeat(dx, dy);
            return () -> relief.repeat(dx, dy);
        }
        int rule = number(0, 3);
        int v = number(0, highest);
        name = "merge(" + rule + ", " + v + ")";
        due = !in(rule, 0, 3) || !in(v, 0, 1000) ? BAD_NUMBER
            : rule != 0 && plain.kept == null ? BAD_STATE : "" + plain.merge(rule, v);
        return () -> relief.merge(rule, v);
    }
}
