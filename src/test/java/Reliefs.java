/** Reliefs for the tests, and texts of what can be seen of them. */
final class Reliefs {
    private Reliefs() {
    }

    /** A relief whose wanted heights are the given rows. */
    static ReliefPasses of(int[]... rows) {
        ReliefPasses relief = new ReliefPasses(rows[0].length, rows.length);
        for (int y = 0; y < rows.length; y++) {
            for (int x = 0; x < rows[y].length; x++) {
                relief.put(x, y, rows[y][x]);
            }
        }
        return relief;
    }

    static int[] row(int... heights) {
        return heights;
    }

    static String made(ReliefPasses relief, int width, int height) {
        StringBuilder text = new StringBuilder();
        for (int y = 0; y < height; y++) {
            for (int x = 0; x < width; x++) {
                text.append(x == 0 ? "" : " ").append(relief.made(x, y));
            }
            text.append(y == height - 1 ? "" : " / ");
        }
        return text.toString();
    }

    /** The wanted heights, as a tool of radius 0 is lifted by just that of the place below it. */
    static String wanted(ReliefPasses relief, int width, int height, int narrowTool) {
        StringBuilder text = new StringBuilder();
        for (int y = 0; y < height; y++) {
            for (int x = 0; x < width; x++) {
                text.append(x == 0 ? "" : " ").append(relief.lift(x, y, narrowTool));
            }
            text.append(y == height - 1 ? "" : " / ");
        }
        return text.toString();
    }

    static String move(ReliefPasses relief, int k) {
        return relief.move(k, 0) + "," + relief.move(k, 1) + "," + relief.move(k, 2);
    }

    static String moves(ReliefPasses relief) {
        StringBuilder text = new StringBuilder();
        for (int k = 0; k < relief.moves(); k++) {
            text.append(k == 0 ? "" : " ").append(move(relief, k));
        }
        return text.toString();
    }
}
