/** Reliefs in several states, for calls that must answer, or be refused, in each of them. */
final class Samples {
    static final int WIDTH = 3;
    static final int HEIGHT = 2;
    /** The tools of a worked one; tool 0 is as narrow as at first, so that its lifts are the wanted heights. */
    static final int[] KINDS = {ReliefPasses.FLAT, ReliefPasses.BALL, ReliefPasses.CONE, ReliefPasses.BALL};
    static final int[] RADII = {0, 1, 0, 5};

    private Samples() {
    }

    static ReliefPasses fresh() {
        return new ReliefPasses(WIDTH, HEIGHT);
    }

    /** Heights kept and told behind it, a stock of 50, a fine pass, one made height below the wanted one (45). */
    static ReliefPasses worked() {
        ReliefPasses relief = Reliefs.of(Reliefs.row(5, 40, 0), Reliefs.row(12, 9, 21));
        for (int tool = 0; tool < KINDS.length; tool++) {
            relief.tool(tool, KINDS[tool], RADII[tool]);
        }
        relief.merge(0, 0);
        relief.put(0, 0, 6);
        relief.stock(50);
        relief.fine(1, 1);
        relief.put(1, 1, 45);
        return relief;
    }

    /** Nothing kept, the greatest wanted height 30 in a stock of 40, a rough pass. */
    static ReliefPasses roughed() {
        ReliefPasses relief = Reliefs.of(Reliefs.row(0, 7, 30), Reliefs.row(1, 2, 3));
        relief.stock(40);
        relief.rough(0, 15, 1);
        return relief;
    }
}
