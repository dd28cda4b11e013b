/** Promises 16 (repeat) and 17 (merge). */
final class PatternsTest {
    private static final Checks checks = new Checks();

    public static void main(String[] args) {
        repeatTakesTheFirstPattern();
        repeatBeyondTheRelief();
        mergeKeepsAndChangesNothing();
        mergeTakesTheGreaterOrLesser();
        mergeAdds();
        checks.finish();
    }

    private static ReliefPasses sample() {
        return Reliefs.of(Reliefs.row(1, 2, 3, 1), Reliefs.row(4, 5, 6, 7), Reliefs.row(1, 9, 8, 7));
    }

    private static void repeatTakesTheFirstPattern() {
        ReliefPasses relief = sample();
        checks.due("repeat(2, 2)", relief.repeat(2, 2), 7);
        checks.due("wanted, repeated", Reliefs.wanted(relief, 4, 3, 0), "1 2 1 2 / 4 5 4 5 / 1 2 1 2");
        checks.due("repeat(2, 2) again", relief.repeat(2, 2), 0);
        ReliefPasses wide = sample();
        checks.due("repeat(3, 1)", wide.repeat(3, 1), 7);
        checks.due("wanted, row repeated", Reliefs.wanted(wide, 4, 3, 0), "1 2 3 1 / 1 2 3 1 / 1 2 3 1");
        ReliefPasses one = sample();
        checks.due("repeat(1, 1)", one.repeat(1, 1), 9);
        checks.due("wanted, one repeated", Reliefs.wanted(one, 4, 3, 0), "1 1 1 1 / 1 1 1 1 / 1 1 1 1");
        checks.due("made is as it was", one.made(3, 2), 1000);
    }

    private static void repeatBeyondTheRelief() {
        ReliefPasses relief = sample();
        checks.due("repeat(4, 3)", relief.repeat(4, 3), 0);
        checks.due("repeat(20, 20)", relief.repeat(20, 20), 0);
        checks.due("repeat(20, 1)", relief.repeat(20, 1), 7);
        checks.due("wanted, only rows repeated", Reliefs.wanted(relief, 4, 3, 0), "1 2 3 1 / 1 2 3 1 / 1 2 3 1");
    }

    private static void mergeKeepsAndChangesNothing() {
        ReliefPasses relief = Reliefs.of(Reliefs.row(3, 8));
        checks.due("merge(0, 0)", relief.merge(0, 0), 0);
        relief.put(0, 0, 5);
        checks.due("merge(0, 1000) once more", relief.merge(0, 1000), 0);
        checks.due("wanted is as it was", Reliefs.wanted(relief, 2, 1, 0), "5 8");
        relief.put(0, 0, 1);
        checks.due("the latest kept ones count", relief.merge(1, 0), 1);
        checks.due("wanted of the latest kept", Reliefs.wanted(relief, 2, 1, 0), "5 8");
    }

    private static void mergeTakesTheGreaterOrLesser() {
        ReliefPasses relief = Reliefs.of(Reliefs.row(3, 8, 5));
        relief.merge(0, 0);
        relief.put(0, 0, 7);
        relief.put(1, 0, 2);
        checks.due("merge(1, 1000): v counts for nothing", relief.merge(1, 1000), 1);
        checks.due("the greater", Reliefs.wanted(relief, 3, 1, 0), "7 8 5");
        relief.put(1, 0, 2);
        checks.due("merge(2, 1000)", relief.merge(2, 1000), 1);
        checks.due("the lesser", Reliefs.wanted(relief, 3, 1, 0), "3 2 5");
        checks.due("the kept ones stay", relief.merge(1, 0), 1);
        checks.due("the greater again", Reliefs.wanted(relief, 3, 1, 0), "3 8 5");
    }

    private static void mergeAdds() {
        ReliefPasses relief = Reliefs.of(Reliefs.row(0, 10, 600, 1000, 5));
        relief.merge(0, 0);
        checks.due("merge(3, 5)", relief.merge(3, 5), 2);
        checks.due("their sum less 5", Reliefs.wanted(relief, 5, 1, 0), "0 15 1000 1000 5");
        checks.due("merge(3, 1000)", relief.merge(3, 1000), 3);
        checks.due("their sum less 1000", Reliefs.wanted(relief, 5, 1, 0), "0 0 600 1000 0");
        checks.due("merge(3, 0)", relief.merge(3, 0), 3);
        checks.due("their sum", Reliefs.wanted(relief, 5, 1, 0), "0 10 1000 1000 5");
        relief.stock(1000);
        checks.due("made is not changed", relief.made(1, 0), 1000);
    }
}
