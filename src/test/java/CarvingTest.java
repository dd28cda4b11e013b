import java.util.Random;

/** The terms LIFT and CARVED: tools "lifted so that nothing wanted is cut", rough levels "with a skin". */
final class CarvingTest {
    private static final int SIDE = 11;
    private static final int MIDDLE = 5;
    private static final int RANDOM_RELIEFS = 60;
    private static final int RANDOM_SIDE = 7;
    private static final Checks checks = new Checks();

    public static void main(String[] args) {
        liftRoundOneHighPlace();
        oneCarvingByEveryTool();
        carvingLeavesLowerPlaces();
        nothingWantedIsCutAndNothingRaised();
        skinStays();
        fineReachesTheLiftAtEveryPlace();
        smallerToolTakesWhatIsLeft();
        checks.finish();
    }

    private static int squareFromMiddle(int x, int y) {
        return (x - MIDDLE) * (x - MIDDLE) + (y - MIDDLE) * (y - MIDDLE);
    }

    /** The words of the terms: the numbers are looked for by their squares. */
    private static int profile(int kind, int radius, int square) {
        int root = 0;
        switch (kind) {
            case ReliefPasses.FLAT:
                return 0;
            case ReliefPasses.BALL:
                while ((root + 1) * (root + 1) <= radius * radius - square) {
                    root++;
                }
                return radius - root;
            default:
                while (root * root < square) {
                    root++;
                }
                return root;
        }
    }

    /** "the greatest WANTED height less PROFILE of all places of the relief that it covers" */
    private static void liftRoundOneHighPlace() {
        for (int kind = 0; kind < 3; kind++) {
            for (int radius = 0; radius <= 5; radius++) {
                ReliefPasses relief = new ReliefPasses(SIDE, SIDE);
                relief.tool(2, kind, radius);
                relief.put(MIDDLE, MIDDLE, 500);
                for (int y = 0; y < SIDE; y++) {
                    for (int x = 0; x < SIDE; x++) {
                        int square = squareFromMiddle(x, y);
                        int due = square > radius * radius ? 0 : 500 - profile(kind, radius, square);
                        checks.due("lift(" + x + ", " + y + ", 2) of kind " + kind + ", radius " + radius,
                            relief.lift(x, y, 2), due);
                    }
                }
            }
        }
    }

    /** High but for a bowl in the middle that the tool just fits in: so there is one place to carve at. */
    private static ReliefPasses bowl(int kind, int radius) {
        ReliefPasses relief = new ReliefPasses(SIDE, SIDE);
        relief.tool(1, kind, radius);
        for (int y = 0; y < SIDE; y++) {
            for (int x = 0; x < SIDE; x++) {
                int square = squareFromMiddle(x, y);
                relief.put(x, y, square > radius * radius ? 1000 : profile(kind, radius, square));
            }
        }
        return relief;
    }

    /** "each place that it covers has as MADE height z + PROFILE", and no other place has another one */
    private static void oneCarvingByEveryTool() {
        for (int kind = 0; kind < 3; kind++) {
            for (int radius = 0; radius <= 5; radius++) {
                ReliefPasses relief = bowl(kind, radius);
                String name = " by kind " + kind + ", radius " + radius;
                checks.due("levels" + name, relief.rough(1, 970, 0), 1);
                checks.due("moves" + name, Reliefs.moves(relief), MIDDLE + "," + MIDDLE + ",30");
                for (int y = 0; y < SIDE; y++) {
                    for (int x = 0; x < SIDE; x++) {
                        int square = squareFromMiddle(x, y);
                        int due = square > radius * radius ? 1000 : 30 + profile(kind, radius, square);
                        checks.due("made(" + x + ", " + y + ")" + name, relief.made(x, y), due);
                    }
                }
            }
        }
    }

    /** "if that is less than it was" */
    private static void carvingLeavesLowerPlaces() {
        ReliefPasses relief = bowl(ReliefPasses.BALL, 3);
        relief.rough(1, 970, 0);
        checks.due("made at the rim", relief.made(MIDDLE + 3, MIDDLE), 33);
        relief.tool(1, ReliefPasses.FLAT, 0);
        relief.rough(1, 968, 0);
        checks.due("made at the rim by a narrow tool", relief.made(MIDDLE + 3, MIDDLE), 32);
        checks.due("made in the middle, lower before", relief.made(MIDDLE, MIDDLE), 30);
        checks.due("made beside the middle, lower before", relief.made(MIDDLE + 1, MIDDLE), 31);
    }

    private static ReliefPasses randomRelief(Random random) {
        ReliefPasses relief = new ReliefPasses(RANDOM_SIDE, RANDOM_SIDE);
        for (int y = 0; y < RANDOM_SIDE; y++) {
            for (int x = 0; x < RANDOM_SIDE; x++) {
                relief.put(x, y, random.nextInt(40));
            }
        }
        for (int tool = 0; tool < 4; tool++) {
            relief.tool(tool, random.nextInt(3), random.nextInt(6));
        }
        relief.stock(50);
        return relief;
    }

    private static void nothingWantedIsCutAndNothingRaised() {
        Random random = new Random(1);
        for (int n = 0; n < RANDOM_RELIEFS; n++) {
            ReliefPasses relief = randomRelief(random);
            long before = relief.sum();
            for (int pass = 0; pass < 30; pass++) {
                int tool = random.nextInt(4);
                if (random.nextBoolean()) {
                    relief.fine(tool, 1 + random.nextInt(20));
                } else {
                    relief.rough(tool, 1 + random.nextInt(20), random.nextInt(5));
                }
                String where = " behind pass " + pass + " over relief " + n;
                checks.due("below()" + where, relief.below(), false);
                checks.due("sum() has not grown" + where, relief.sum() <= before, true);
                before = relief.sum();
            }
        }
    }

    /** "where its LIFT + skin is not above z": so what is carved by a pass stays above WANTED by the skin */
    private static void skinStays() {
        Random random = new Random(2);
        for (int n = 0; n < RANDOM_RELIEFS; n++) {
            ReliefPasses relief = randomRelief(random);
            int skin = random.nextInt(12);
            relief.rough(random.nextInt(4), 1 + random.nextInt(10), skin);
            relief.tool(0, ReliefPasses.FLAT, 0);
            for (int y = 0; y < RANDOM_SIDE; y++) {
                for (int x = 0; x < RANDOM_SIDE; x++) {
                    int made = relief.made(x, y);
                    checks.due("a skin of " + skin + " at " + x + ", " + y + " of relief " + n,
                        made == 50 || made - relief.lift(x, y, 0) >= skin, true);
                }
            }
        }
    }

    /** "CARVED at its LIFT": its tip was there, so nothing is higher */
    private static void fineReachesTheLiftAtEveryPlace() {
        Random random = new Random(3);
        for (int n = 0; n < RANDOM_RELIEFS; n++) {
            ReliefPasses relief = randomRelief(random);
            int tool = random.nextInt(4);
            relief.fine(tool, 1);
            for (int y = 0; y < RANDOM_SIDE; y++) {
                for (int x = 0; x < RANDOM_SIDE; x++) {
                    checks.due("made is not above the lift at " + x + ", " + y + " of relief " + n,
                        relief.made(x, y) <= relief.lift(x, y, tool), true);
                }
            }
        }
    }

    /** "what is left for a smaller tool" */
    private static void smallerToolTakesWhatIsLeft() {
        ReliefPasses relief = Reliefs.of(
            Reliefs.row(9, 0, 9, 0, 0), Reliefs.row(0, 0, 9, 0, 0), Reliefs.row(9, 9, 9, 0, 0));
        relief.stock(9);
        relief.tool(1, ReliefPasses.FLAT, 1);
        relief.fine(1, 1);
        checks.due("made by the wide tool", Reliefs.made(relief, 5, 3), "9 9 9 0 0 / 9 9 9 0 0 / 9 9 9 0 0");
        checks.due("places left", relief.rest(0, ReliefPasses.NONE), 3);
        checks.due("the first of them", relief.rest(0, 0), 1);
        checks.due("the second of them", relief.rest(0, 1), 20);
        checks.due("the third of them", relief.rest(0, 2), 21);
        checks.due("the sum of it", relief.sum(), 27);
        relief.fine(0, 1);
        checks.due("places left behind the smaller tool", relief.rest(0, ReliefPasses.NONE), 0);
        checks.due("the sum of it behind the smaller tool", relief.sum(), 0);
        checks.due("nothing wanted is cut", relief.below(), false);
    }
}
