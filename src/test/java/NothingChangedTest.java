/** A call that throws changes nothing: all that can be seen is the same before and behind every kind of wrong call. */
final class NothingChangedTest {
    private static final Checks checks = new Checks();
    private static final int[] EDGES =
        {Integer.MIN_VALUE, -2, -1, 0, 1, 3, 4, 6, 20, 21, 1000, 1001, Integer.MAX_VALUE};

    public static void main(String[] args) {
        for (int a : EDGES) {
            for (int b : EDGES) {
                for (int c : EDGES) {
                    tryAll(a, b, c);
                }
            }
        }
        checks.finish();
    }

    private static ReliefPasses sample() {
        ReliefPasses relief = Reliefs.of(Reliefs.row(5, 40), Reliefs.row(12, 9));
        relief.tool(1, ReliefPasses.BALL, 1);
        relief.merge(0, 0);
        relief.put(0, 0, 6);
        relief.stock(50);
        relief.fine(1, 1);
        relief.put(1, 1, 45);
        return relief;
    }

    private static String seen(ReliefPasses relief) {
        StringBuilder text = new StringBuilder();
        text.append(Reliefs.wanted(relief, 2, 2, 0)).append(" | ").append(Reliefs.made(relief, 2, 2));
        text.append(" | ").append(Reliefs.moves(relief)).append(" | ").append(relief.way());
        for (int tool = 0; tool < 4; tool++) {
            text.append(" | ").append(relief.profile(tool, 1, 0)).append(relief.profile(tool, 1, 1));
        }
        relief.merge(1, 0);
        text.append(" | ").append(Reliefs.wanted(relief, 2, 2, 0));
        relief.put(0, 0, 0);
        relief.put(1, 0, 0);
        relief.put(0, 1, 0);
        relief.put(1, 1, 0);
        return text.append(" | ").append(relief.rough(0, 1, 0)).toString();
    }

    private static void tryAll(int a, int b, int c) {
        ReliefPasses[] r = new ReliefPasses[1];
        tryOne(r, "put", a, b, c, () -> r[0].put(a, b, c) ? 1 : 0);
        tryOne(r, "tool", a, b, c, () -> r[0].tool(a, b, c) ? 1 : 0);
        tryOne(r, "stock", a, b, c, () -> r[0].stock(a));
        tryOne(r, "lift", a, b, c, () -> r[0].lift(a, b, c));
        tryOne(r, "profile", a, b, c, () -> r[0].profile(a, b, c));
        tryOne(r, "rough", a, b, c, () -> r[0].rough(a, b, c));
        tryOne(r, "fine", a, b, c, () -> r[0].fine(a, b));
        tryOne(r, "made", a, b, c, () -> r[0].made(a, b));
        tryOne(r, "rest", a, b, c, () -> r[0].rest(a, b));
        tryOne(r, "move", a, b, c, () -> r[0].move(a, b));
        tryOne(r, "repeat", a, b, c, () -> r[0].repeat(a, b));
        tryOne(r, "merge", a, b, c, () -> r[0].merge(a, b));
    }

    private static final String UNTOUCHED = seen(sample());

    private static void tryOne(ReliefPasses[] relief, String name, int a, int b, int c, Checks.Call call) {
        relief[0] = sample();
        String outcome = Checks.outcome(call);
        String where = name + " of " + a + ", " + b + ", " + c;
        if (outcome.startsWith("throws.")) {
            boolean named = outcome.equals("throws.IndexOutOfBoundsException")
                || outcome.equals("throws.IllegalArgumentException") || outcome.equals("throws.IllegalStateException");
            checks.due(where + " " + outcome + " is one that the document names", named, true);
            checks.due("what is seen behind " + where, seen(relief[0]), UNTOUCHED);
        }
    }
}
