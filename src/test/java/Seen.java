import java.util.LinkedHashMap;
import java.util.Map;

/** All that can be told of a relief from outside; asked once, as some of it is only seen by changes. */
final class Seen {
    private Seen() {
    }

    static String of(ReliefPasses relief, int width, int height) {
        return parts(relief, width, height).toString();
    }

    /** By the document's names of what a relief has: MOVES, MADE, TOOLS, WANTED, KEPT, STOCK. */
    static Map<String, String> parts(ReliefPasses relief, int width, int height) {
        Map<String, String> parts = new LinkedHashMap<>();
        parts.put("MOVES", relief.moves() + ": " + Reliefs.moves(relief) + ", way " + relief.way());
        parts.put("MADE", Reliefs.made(relief, width, height));
        parts.put("TOOLS", tools(relief));
        parts.put("WANTED", Reliefs.wanted(relief, width, height, 0));
        clearWanted(relief, width, height);
        String merging = Checks.outcome(() -> relief.merge(1, 0));
        parts.put("KEPT", merging + " others: " + Reliefs.wanted(relief, width, height, 0));
        clearWanted(relief, width, height);
        parts.put("STOCK", "levels " + relief.rough(0, 1, 0));
        return parts;
    }

    /** Profiles do not tell kinds at radius 0, nor a ball from a cone at 1: so tools are set to those of Samples. */
    private static String tools(ReliefPasses relief) {
        StringBuilder text = new StringBuilder();
        for (int tool = 0; tool < 4; tool++) {
            for (int dx = 0; dx <= 5; dx++) {
                text.append(' ').append(relief.profile(tool, dx, 0));
            }
            text.append(relief.tool(tool, Samples.KINDS[tool], Samples.RADII[tool]) ? " other" : " same");
        }
        return text.toString();
    }

    private static void clearWanted(ReliefPasses relief, int width, int height) {
        for (int y = 0; y < height; y++) {
            for (int x = 0; x < width; x++) {
                relief.put(x, y, 0);
            }
        }
    }
}
