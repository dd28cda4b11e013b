/** Promise 1: a new object. */
final class NewObjectTest {
    private static final Checks checks = new Checks();

    public static void main(String[] args) {
        sidesAreTheNearest();
        clampedSidesAreWhole();
        startsAsTheDocumentSays();
        nothingIsKeptAtFirst();
        objectsShareNothing();
        constantsAreThose();
        checks.finish();
    }

    /** "WIDTH and HEIGHT are the nearest of 1 .. 20" */
    private static void sidesAreTheNearest() {
        int[] given = {Integer.MIN_VALUE, Integer.MIN_VALUE + 1, -20, -1, 0, 1, 2, 19, 20, 21, 40,
            Integer.MAX_VALUE - 1, Integer.MAX_VALUE};
        int[] due = {1, 1, 1, 1, 1, 1, 2, 19, 20, 20, 20, 20, 20};
        for (int i = 0; i < given.length; i++) {
            for (int j = 0; j < given.length; j++) {
                ReliefPasses relief = new ReliefPasses(given[i], given[j]);
                String name = "ReliefPasses(" + given[i] + ", " + given[j] + ")";
                int width = due[i];
                int height = due[j];
                checks.due(name + " has its last place", relief.made(width - 1, height - 1), 1000);
                checks.dueNoPlace(name + " made(width, 0)", () -> relief.made(width, 0));
                checks.dueNoPlace(name + " made(0, height)", () -> relief.made(0, height));
                checks.due(name + " sum()", relief.sum(), 1000L * width * height);
            }
        }
    }

    private static void clampedSidesAreWhole() {
        ReliefPasses wide = new ReliefPasses(Integer.MAX_VALUE, Integer.MIN_VALUE);
        checks.due("rows of the widest and lowest", wide.fine(0, 1), 1);
        checks.due("its moves", wide.moves(), 20);
        checks.due("its way", wide.way(), 19);
        ReliefPasses high = new ReliefPasses(Integer.MIN_VALUE, Integer.MAX_VALUE);
        checks.due("rows of the narrowest and highest", high.fine(0, 1), 20);
        checks.due("its moves", high.moves(), 20);
        checks.due("its way", high.way(), 19);
    }

    /** "0 at first", "STOCK (1000 at first)", "kind 0, r 0 at first" */
    private static void startsAsTheDocumentSays() {
        ReliefPasses relief = new ReliefPasses(3, 2);
        checks.due("made at first", Reliefs.made(relief, 3, 2), "1000 1000 1000 / 1000 1000 1000");
        checks.due("wanted at first", Reliefs.wanted(relief, 3, 2, 0), "0 0 0 / 0 0 0");
        for (int tool = 0; tool < 4; tool++) {
            checks.due("profile of a new tool", relief.profile(tool, 0, 0), 0);
            checks.due("profile beside a new tool", relief.profile(tool, 1, 0), ReliefPasses.NONE);
            checks.due("a new tool is flat, of radius 0", relief.tool(tool, ReliefPasses.FLAT, 0), false);
        }
        checks.due("moves at first", relief.moves(), 0);
        checks.due("way at first", relief.way(), 0);
        checks.due("below at first", relief.below(), false);
        checks.due("rest at first", relief.rest(999, ReliefPasses.NONE), 6);
        checks.dueNoPlace("no move at first", () -> relief.move(0, 0));
        checks.due("levels of the stock at first", relief.rough(0, 1, 0), 999);
    }

    private static void nothingIsKeptAtFirst() {
        for (int rule = 1; rule <= 3; rule++) {
            int r = rule;
            ReliefPasses relief = new ReliefPasses(3, 2);
            checks.dueBadState("merge(" + r + ", 0) at first", () -> relief.merge(r, 0));
        }
    }

    private static void objectsShareNothing() {
        ReliefPasses other = Samples.fresh();
        String before = Seen.of(Samples.fresh(), Samples.WIDTH, Samples.HEIGHT);
        ReliefPasses worked = Samples.worked();
        worked.rough(3, 7, 1);
        checks.due("a relief beside another one", Seen.of(other, Samples.WIDTH, Samples.HEIGHT), before);
    }

    private static void constantsAreThose() {
        checks.due("NONE", ReliefPasses.NONE, -1);
        checks.due("FLAT", ReliefPasses.FLAT, 0);
        checks.due("BALL", ReliefPasses.BALL, 1);
        checks.due("CONE", ReliefPasses.CONE, 2);
    }
}
